/** Promise 23: picture. */
public final class Promise23Test {
    private static final Check CHECK = new Check("Promise23Test");
    private static final int MIN = Integer.MIN_VALUE;
    private static final int MAX = Integer.MAX_VALUE;

    public static void main(String[] args) {
        noPixels();
        outsideLeftOut();
        farOutside();
        rowByRow();
        wrapsAround();
        theWholePicture();
        changesNothing();
        CHECK.end();
    }

    private static void due(String call, long got, long want) {
        CHECK.due(call, got, want);
    }

    /** 4 by 3 pixels, all of 9. */
    private static Room plain() {
        Room r = new Room();
        r.size(4, 3);
        r.set(2, 0, 9);
        return r;
    }

    private static int sum(int many) {
        int s = 1;
        for (int k = 0; k < many; k++) {
            s = 31 * s + 9;
        }
        return s;
    }

    private static void duePicture(Room r, int x, int y, int w, int h, int pixels) {
        due("picture(" + x + ", " + y + ", " + w + ", " + h + ")", r.picture(x, y, w, h), sum(pixels));
    }

    private static void noPixels() {
        CHECK.sentence("the sum s, at first 1 (no pixels: w or h is 0 or less)");
        Room r = plain();
        for (int v : new int[] {0, -1, -2, -5, MIN}) {
            duePicture(r, 0, 0, v, 3, 0);
            duePicture(r, 0, 0, 4, v, 0);
            duePicture(r, 0, 0, v, v, 0);
            duePicture(r, 2, 1, v, v, 0);
            duePicture(r, -1, -1, v, 9, 0);
        }
        duePicture(r, 0, 0, 1, 1, 1);
    }

    private static void outsideLeftOut() {
        CHECK.sentence("The pixels from x, y on, w by h, those outside left out");
        Room r = plain();
        for (int x = -5; x <= 5; x++) {
            for (int w = 0; w <= 10; w++) {
                int columns = Math.max(0, Math.min(4, x + w) - Math.max(0, x));
                duePicture(r, x, 1, w, 1, columns);
            }
        }
        for (int y = -4; y <= 4; y++) {
            for (int h = 0; h <= 8; h++) {
                int rows = Math.max(0, Math.min(3, y + h) - Math.max(0, y));
                duePicture(r, 2, y, 1, h, rows);
            }
        }
        duePicture(r, 2, 2, 9, 9, 2);
        duePicture(r, -3, -3, 5, 4, 2);
        duePicture(r, -9, -9, 99, 99, 12);
        duePicture(r, 3, 2, 1, 1, 1);
        duePicture(r, 4, 0, 1, 3, 0);
        duePicture(r, 0, 3, 4, 1, 0);
    }

    private static void farOutside() {
        CHECK.sentence("those outside left out (far outside: x + w and y + h would wrap)");
        Room r = plain();
        duePicture(r, 0, 0, MAX, MAX, 12);
        duePicture(r, 1, 1, MAX, MAX, 6);
        duePicture(r, 3, 2, MAX, MAX, 1);
        duePicture(r, -5, -5, MAX, MAX, 12);
        duePicture(r, MAX, MAX, MAX, MAX, 0);
        duePicture(r, MAX, 0, 9, 3, 0);
        duePicture(r, 0, MAX, 4, 9, 0);
        duePicture(r, MAX, 0, MAX, 3, 0);
        duePicture(r, MIN, MIN, MAX, MAX, 0);
        duePicture(r, MIN + 1, 0, MAX, 3, 0);
        duePicture(r, MIN + 2, 0, MAX, 3, 3);
        duePicture(r, MIN + 3, MIN + 2, MAX, MAX, 2);
        duePicture(r, MIN, MIN, MIN, MIN, 0);
        duePicture(r, MIN, MIN, MIN + 5, MIN + 5, 0);
        duePicture(r, MIN, 0, MIN + 2, 3, 0);
        duePicture(r, -1, 0, MIN, 3, 0);
        duePicture(r, 0, -1, 4, MIN, 0);
        duePicture(r, -2, -2, MIN, MIN, 0);
    }

    private static void rowByRow() {
        CHECK.sentence("row by row: the sum becomes 31 s and the pixel");
        Room r = new Room();
        // Only the pixel at the upper right is no back.
        r.put(255, 5, 5, 0, 15, 5, 0, 10, 15, 0);
        r.eyeAt(0, 0, 10);
        r.size(2, 2);
        r.axis(0, 0, 0, -10);
        r.axis(1, 10, 0, 0);
        r.axis(2, 0, 10, 0);
        r.set(1, 0, 50);
        due("upper right", r.pixel(1, 0), 50);
        due("lower left", r.pixel(0, 1), 0);
        due("all", r.picture(0, 0, 2, 2), 31 * 31 * (31 * 31 + 50));
        due("the right column", r.picture(1, 0, 1, 2), 31 * (31 + 50));
        due("the upper row", r.picture(0, 0, 2, 1), 31 * 31 + 50);
        due("the left column", r.picture(0, 0, 1, 2), 31 * 31);
    }

    private static void wrapsAround() {
        CHECK.sentence("(in 32 bits that wrap)");
        Room r = new Room();
        r.size(32, 1);
        r.set(2, 0, 255);
        long s = 1;
        for (int many = 1; many <= 32; many++) {
            s = (31 * s + 255) & 0xFFFFFFFFL;
            due("picture of " + many, r.picture(0, 0, many, 1), (int) s);
        }
    }

    private static void theWholePicture() {
        CHECK.sentence("w by h (as many as may be)");
        Room r = new Room();
        r.size(32, 32);
        r.set(2, 0, 9);
        duePicture(r, 0, 0, 32, 32, 1024);
        duePicture(r, 0, 0, 33, 33, 1024);
        duePicture(r, 0, 0, 31, 32, 992);
        duePicture(r, 0, 0, 32, 31, 992);
        duePicture(r, 31, 31, 32, 32, 1);
        duePicture(r, 32, 31, 1, 1, 0);
        duePicture(r, 31, 32, 1, 1, 0);
        duePicture(new Room(), 0, 0, 0, 0, 0);
        due("one by one", new Room().picture(0, 0, 1, 1), 31);
    }

    private static void changesNothing() {
        CHECK.sentence("s (and nothing changes)");
        int all = Room.filled().picture(0, 0, 3, 2);
        CHECK.refused("picture(0, 0, 3, 2)", all, Room::filled, r -> r.picture(0, 0, 3, 2));
        CHECK.refused("picture(5, 5, -1, -1)", 1, Room::filled, r -> r.picture(5, 5, -1, -1));
    }
}
