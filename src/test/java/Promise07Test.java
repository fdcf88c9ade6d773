/** Promise 7: axis. */
public final class Promise07Test {
    private static final Check CHECK = new Check("Promise07Test");
    private static final int BAD = RayRoom.BAD;
    private static final int MIN = Integer.MIN_VALUE;
    private static final int MAX = Integer.MAX_VALUE;

    public static void main(String[] args) {
        becomesTheVector();
        noSuchAxis();
        axisOnAlone();
        axisRightAlone();
        axisUpAlone();
        onlyPixelsThatAreThere();
        allTogether();
        signsDoNotHelp();
        numbersThatWrap();
        changingNothing();
        CHECK.end();
    }

    private static void due(String call, long got, long want) {
        CHECK.due(call, got, want);
    }

    private static Room sized(int w, int h) {
        Room r = new Room();
        r.size(w, h);
        return r;
    }

    /** The axis with v as one of its numbers, the others 0. */
    private static int turn(Room r, int which, int place, int v) {
        return r.axis(which, place == 0 ? v : 0, place == 1 ? v : 0, place == 2 ? v : 0);
    }

    private static void becomesTheVector() {
        CHECK.sentence("An axis becomes the vector: 0");
        Room r = Room.floor();
        due("size(3, 5)", r.size(3, 5), 0);
        due("axis(0, 1, 2, -10)", r.axis(0, 1, 2, -10), 0);
        due("axis(1, 3, 0, 0)", r.axis(1, 3, 0, 0), 0);
        due("axis(2, 0, 4, 0)", r.axis(2, 0, 4, 0), 0);
        // From 0 0 10 down to 0: the place is x and y of D.
        int[][] places = {{0, 0, -5, 18}, {2, 0, 7, 18}, {1, 2, 1, 2}, {0, 4, -5, -14}, {2, 4, 7, -14}};
        for (int[] p : places) {
            due("hit", r.hit(p[0], p[1]), 0);
            due("x of " + p[0], r.told(3), p[2]);
            due("y of " + p[1], r.told(4), p[3]);
        }
        due("the axis once more", r.axis(0, 0, 0, -10), 0);
        due("hit", r.hit(1, 2), 0);
        due("x", r.told(3), 0);
        due("y", r.told(4), 0);
    }

    private static void noSuchAxis() {
        CHECK.sentence("BAD, changing nothing: no such axis");
        for (int which : Check.outside(0, 2)) {
            CHECK.refused("axis(" + which + ", 1, 1, 1)", BAD, Room::filled, r -> r.axis(which, 1, 1, 1));
        }
        for (int which = 0; which <= 2; which++) {
            due("axis(" + which + ", 1, 1, 1)", Room.filled().axis(which, 1, 1, 1), 0);
        }
    }

    private static void dueUpTo(int w, int h, int which, int last) {
        for (int place = 0; place < 3; place++) {
            for (int sign = -1; sign <= 1; sign += 2) {
                String call = "axis(" + which + ", ..) in " + w + " by " + h + " at " + place + ": ";
                due(call + sign * last, turn(sized(w, h), which, place, sign * last), 0);
                due(call + sign * (last + 1), turn(sized(w, h), which, place, sign * (last + 1)), BAD);
            }
            for (int v : Check.outside(-last, last)) {
                due("axis(" + which + ", ..) with " + v, turn(sized(w, h), which, place, v), BAD);
            }
        }
    }

    private static void axisOnAlone() {
        CHECK.sentence("BAD: some D would be outside (axis 0)");
        dueUpTo(1, 1, 0, 1023);
        dueUpTo(32, 32, 0, 1023);
        Room r = new Room();
        due("from one end", r.axis(0, 1023, -1023, 1023), 0);
        due("to the other", r.axis(0, -1023, 1023, -1023), 0);
    }

    private static void axisRightAlone() {
        CHECK.sentence("BAD: some D would be outside (axis 1: 2 x - W + 1 goes from 1 - W to W - 1)");
        for (int w = 2; w <= 32; w++) {
            dueUpTo(w, w % 3 + 1, 1, 1023 / (w - 1));
        }
    }

    private static void axisUpAlone() {
        CHECK.sentence("BAD: some D would be outside (axis 2: H - 1 - 2 y goes from H - 1 to 1 - H)");
        for (int h = 2; h <= 32; h++) {
            dueUpTo(h % 3 + 1, h, 2, 1023 / (h - 1));
        }
    }

    private static void onlyPixelsThatAreThere() {
        CHECK.sentence("BAD: some D would be outside (but with one pixel axes 1 and 2 are times 0)");
        for (int v : new int[] {1024, -1024, MIN, MAX}) {
            due("one column", sized(1, 32).axis(1, v, v, v), 0);
            due("one row", sized(32, 1).axis(2, v, v, v), 0);
            due("two columns", sized(2, 1).axis(1, 0, 0, v), BAD);
            due("two rows", sized(1, 2).axis(2, 0, 0, v), BAD);
        }
        Room r = Room.floor();
        due("axis(1, MAX, MIN, 7)", r.axis(1, MAX, MIN, 7), 0);
        due("axis(2, MIN, MIN, MIN)", r.axis(2, MIN, MIN, MIN), 0);
        due("the ray is as before", r.hit(0, 0), 0);
        CHECK.dueAll("the ray is as before", r.allTold(), 0, 10, 1, 0, 0, 0, 1, 1, 1, 2, 4);
        due("axis 0 has all the room", r.axis(0, 1023, 1023, -1023), 0);
        due("and no more", r.axis(0, 0, 0, -1024), BAD);
    }

    private static void allTogether() {
        CHECK.sentence("BAD: some D would be outside (all three axes together)");
        for (int place = 0; place < 3; place++) {
            Room r = sized(3, 4);
            due("axis 0", turn(r, 0, place, -1000), 0);
            due("and 2 times 4", turn(r, 1, place, 4), 0);
            due("and 3 times 5 is 1023", turn(r, 2, place, 5), 0);
            due("3 times 6 is too much", turn(r, 2, place, 6), BAD);
            due("2 times 5 is too much", turn(r, 1, place, 5), BAD);
            due("-1001 is too much", turn(r, 0, place, -1001), BAD);
            due("1000 is not", turn(r, 0, place, 1000), 0);
            due("1001 is too much", turn(r, 0, place, 1001), BAD);
            due("less of one", turn(r, 1, place, 0), 0);
            due("lets more of the other", turn(r, 2, place, 7), 0);
            due("but not that much", turn(r, 2, place, 8), BAD);
            due("another place is free", turn(r, 0, (place + 1) % 3, 1023), 0);
        }
    }

    private static void signsDoNotHelp() {
        CHECK.sentence("Each number of all D is -1,023 .. 1,023 (of the pixels on both sides)");
        for (int a = -1; a <= 1; a += 2) {
            for (int b = -1; b <= 1; b += 2) {
                Room r = sized(2, 2);
                due("axis(0, ..)", r.axis(0, 0, a * 1000, 0), 0);
                due("1000 and 20", r.axis(1, 0, b * 20, 0), 0);
                due("1000, 20 and 3", r.axis(2, 0, -b * 3, 0), 0);
                due("1000, 20 and 4", r.axis(2, 0, -b * 4, 0), BAD);
                due("1000, 21 and 3", r.axis(1, 0, -b * 21, 0), BAD);
                due("1001, 20 and 3", r.axis(0, 0, -a * 1001, 0), BAD);
            }
        }
    }

    private static void numbersThatWrap() {
        CHECK.sentence("BAD: some D would be outside (far outside: 32 bits would wrap)");
        for (int w = 2; w <= 32; w++) {
            long around = (1L << 32) / (w - 1);
            for (long v : new long[] {around, around + 1, -around, -around - 1, around / 2, MIN, MAX, 1 << 30}) {
                if (v >= MIN && v <= MAX) {
                    due("axis(1, " + v + ", 0, 0) in width " + w, sized(w, 1).axis(1, (int) v, 0, 0), BAD);
                    due("axis(2, 0, 0, " + v + ") in height " + w, sized(1, w).axis(2, 0, 0, (int) v), BAD);
                }
            }
        }
        Room r = sized(2, 1);
        r.axis(0, 1023, 0, 0);
        due("MAX and 1023", r.axis(1, MAX, 0, 0), BAD);
        due("MIN and 1023", r.axis(1, MIN, 0, 0), BAD);
    }

    private static void changingNothing() {
        CHECK.sentence("BAD, changing nothing: some D would be outside");
        int[][] axes = {{0, 1024, 0, 0}, {0, 1022, 0, 0}, {0, 0, 1023, 0}, {0, 0, 0, -1024}, {1, 512, 0, 0},
            {1, 0, 512, 0}, {1, 0, 0, -510}, {2, 1022, 0, 0}, {2, 0, 1024, 0}, {2, 0, 0, 1020},
            {0, MIN, MIN, MIN}, {1, MAX, MAX, MAX}, {2, 1, 1, MIN}};
        for (int[] a : axes) {
            CHECK.refused("axis(" + a[0] + ", " + a[1] + ", " + a[2] + ", " + a[3] + ")", BAD, Room::filled,
                r -> r.axis(a[0], a[1], a[2], a[3]));
        }
    }
}
