import java.math.BigInteger;

/** Promise 16: told. */
public final class Promise16Test {
    private static final Check CHECK = new Check("Promise16Test");
    private static final int NONE = RayRoom.NONE;

    public static void main(String[] args) {
        leastTerms();
        aboveZero();
        zeroes();
        greatNumbers();
        nothingAtHand();
        anotherNumber();
        staysWhateverChanges();
        staysWhateverIsAsked();
        CHECK.end();
    }

    private static void due(String call, long got, long want) {
        CHECK.due(call, got, want);
    }

    private static Room wall() {
        Room r = new Room();
        r.put(1, -10, -10, 0, 10, -10, 0, 0, 10, 0);
        r.eyeAt(0, 0, 10);
        return r;
    }

    private static void leastTerms() {
        CHECK.sentence("t in least terms; the place in least terms; how much the corners weigh, in least terms");
        Room r = wall();
        r.hitAlong(0, 0, -1);
        CHECK.dueAll("along 0 0 -1", r.allTold(), 0, 10, 1, 0, 0, 0, 1, 1, 1, 2, 4);
        r.hitAlong(0, 0, -1000);
        CHECK.dueAll("along 0 0 -1000", r.allTold(), 0, 1, 100, 0, 0, 0, 1, 1, 1, 2, 4);
        r.hitAlong(1, 0, -3);
        CHECK.dueAll("along 1 0 -3", r.allTold(), 0, 10, 3, 10, 0, 0, 3, 1, 5, 6, 12);
        r.hitAlong(4, -6, -12);
        CHECK.dueAll("along 4 -6 -12", r.allTold(), 0, 5, 6, 10, -15, 0, 3, 5, 13, 6, 24);
        r.eyeAt(0, 0, 3);
        r.hitAlong(1, 1, -7);
        CHECK.dueAll("along 1 1 -7", r.allTold(), 0, 3, 7, 3, 3, 0, 7, 61, 73, 146, 280);
    }

    private static void aboveZero() {
        CHECK.sentence("what they are over, that above 0 (whichever way N points)");
        for (int turned = 0; turned < 2; turned++) {
            Room r = new Room();
            r.put(1, -10, -10, 0, turned == 0 ? 10 : 0, turned == 0 ? -10 : 10, 0, turned == 0 ? 0 : 10,
                turned == 0 ? 10 : -10, 0);
            for (int side = -1; side <= 1; side += 2) {
                r.eyeAt(0, 0, 10 * side);
                due("hit", r.hitAlong(-1, 0, -3 * side), 0);
                long[] want = turned == 0 ? new long[] {0, 10, 3, -10, 0, 0, 3, 5, 1, 6, 12}
                    : new long[] {0, 10, 3, -10, 0, 0, 3, 5, 6, 1, 12};
                CHECK.dueAll("told", r.allTold(), want);
            }
        }
    }

    private static void zeroes() {
        CHECK.sentence("in least terms (of 0, at corners and on edges)");
        Room r = wall();
        int[][] along = {{-10, -10, -10}, {10, -10, -10}, {0, 20, -20}, {0, -10, -10}, {5, 0, -10}, {-5, 0, -10}};
        long[][] want = {{0, 1, 1, -10, -10, 0, 1, 1, 0, 0, 1}, {0, 1, 1, 10, -10, 0, 1, 0, 1, 0, 1},
            {0, 1, 2, 0, 10, 0, 1, 0, 0, 1, 1}, {0, 1, 1, 0, -10, 0, 1, 1, 1, 0, 2},
            {0, 1, 1, 5, 0, 0, 1, 0, 1, 1, 2}, {0, 1, 1, -5, 0, 0, 1, 1, 0, 1, 2}};
        for (int k = 0; k < along.length; k++) {
            due("hit", r.hitAlong(along[k][0], along[k][1], along[k][2]), 0);
            CHECK.dueAll("told", r.allTold(), want[k]);
        }
    }

    private static BigInteger big(long v) {
        return BigInteger.valueOf(v);
    }

    private static boolean inLeastTerms(long[] row, int from, int to) {
        BigInteger g = BigInteger.ZERO;
        for (int k = from; k <= to; k++) {
            g = g.gcd(big(row[k]));
        }
        return g.equals(BigInteger.ONE);
    }

    private static void greatNumbers() {
        CHECK.sentence("A, B, C times these, together, is the place (with the greatest numbers)");
        int[] c = {255, -255, -254, -255, 255, -255, -255, -253, 255};
        int[] eye = {255, 254, 255};
        int[] d = {-1023, -1021, -1022};
        Room r = new Room();
        r.put(1, c);
        r.eyeAt(eye[0], eye[1], eye[2]);
        due("hit", r.hitAlong(d[0], d[1], d[2]), 0);
        long[] t = r.allTold();
        CHECK.dueTrue("in least terms", inLeastTerms(t, 1, 2) && inLeastTerms(t, 3, 6) && inLeastTerms(t, 7, 10));
        CHECK.dueTrue("above 0", t[1] > 0 && t[2] > 0 && t[6] > 0 && t[10] > 0);
        due("the weights together", t[7] + t[8] + t[9], t[10]);
        for (int a = 0; a < 3; a++) {
            BigInteger onRay = big(eye[a]).multiply(big(t[2])).add(big(d[a]).multiply(big(t[1])));
            CHECK.dueTrue("it is E + t D", big(t[3 + a]).multiply(big(t[2])).equals(onRay.multiply(big(t[6]))));
            BigInteger weighed = BigInteger.ZERO;
            for (int k = 0; k < 3; k++) {
                weighed = weighed.add(big(c[3 * k + a]).multiply(big(t[7 + k])));
            }
            CHECK.dueTrue("it is by the weights", big(t[3 + a]).multiply(big(t[10])).equals(weighed.multiply(big(t[6]))));
        }
    }

    private static void nothingAtHand() {
        CHECK.sentence("BAD (here - 9,000,000,000,000,000,000): nothing is at hand");
        Room r = wall();
        for (int what = -1; what <= 11; what++) {
            due("before any hit: told(" + what + ")", r.told(what), -9_000_000_000_000_000_000L);
        }
        r.hitAlong(0, 0, -1);
        due("something is at hand", r.told(0), 0);
        due("hit", r.hitAlong(0, 0, 1), NONE);
        for (int what = -1; what <= 11; what++) {
            due("after NONE: told(" + what + ")", r.told(what), -9_000_000_000_000_000_000L);
        }
        r.hit(1, 1);
        due("after BAD too", r.told(0), -9_000_000_000_000_000_000L);
    }

    private static void anotherNumber() {
        CHECK.sentence("BAD: another number");
        for (int what : Check.outside(0, 10)) {
            CHECK.refused("told(" + what + ")", Room.UNTOLD, Room::filled, r -> r.told(what));
        }
        due("told(0)", Room.filled().told(0), 1);
        due("told(10)", Room.filled().told(10), 32);
    }

    private static void staysWhateverChanges() {
        CHECK.sentence("(It stays as it was, whatever changes.)");
        Room r = wall();
        r.hitAlong(1, 0, -3);
        long[] before = r.allTold();
        r.moveTo(0, 0, -100, -100, 5);
        CHECK.dueAll("after move()", r.allTold(), before);
        r.eyeAt(7, 7, 7);
        r.axis(0, 1, 2, 3);
        r.size(4, 4);
        CHECK.dueAll("after eye(), axis(), size()", r.allTold(), before);
        r.put(1, -10, -10, 3, 10, -10, 3, 0, 10, 3);
        r.build(1);
        r.refit();
        CHECK.dueAll("after triangle(), build(), refit()", r.allTold(), before);
        r.lightAt(0, 255, 1, 1, 1);
        r.set(3, 0, 9);
        r.drop();
        CHECK.dueAll("after light(), set(), drop()", r.allTold(), before);
        r.hit(9, 9);
        CHECK.dueAll("after a hit() that is BAD", r.allTold(), before);
    }

    private static void staysWhateverIsAsked() {
        CHECK.sentence("(It stays as it was) when other rays are asked for");
        for (int away = 0; away < 2; away++) {
            Room r = Room.filled();
            long[] before = r.allTold();
            if (away == 1) {
                r.axis(0, 0, 0, 4);
            }
            r.cross(0, 1);
            r.pixel(0, 1);
            r.lit(0, 1, 0);
            r.shadow(0, 1, 0);
            r.meets(0, 1, 0);
            r.seen(-1);
            r.seen(0);
            r.picture(0, 0, 3, 2);
            CHECK.dueAll("told", r.allTold(), before);
        }
    }
}
