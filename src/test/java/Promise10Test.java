/** Promise 10: set. */
public final class Promise10Test {
    private static final Check CHECK = new Check("Promise10Test");
    private static final int BAD = RayRoom.BAD;
    private static final int[] ODD = {Integer.MIN_VALUE, -1, 16, 128, Integer.MAX_VALUE};

    public static void main(String[] args) {
        levels();
        ambient();
        back();
        tones();
        noneSuch();
        noSuchLevel();
        noSuchTriangle();
        noValue();
        nothingElse();
        CHECK.end();
    }

    private static void due(String call, long got, long want) {
        CHECK.due(call, got, want);
    }

    private static void levels() {
        CHECK.sentence("0 the value of a level becomes v (i is the level): what it was");
        Room r = new Room();
        for (int level = 0; level < 16; level++) {
            due("level " + level, r.set(0, level, 255 - level), 17 * level);
        }
        for (int level = 0; level < 16; level++) {
            due("level " + level, r.set(0, level, 0), 255 - level);
            due("level " + level, r.set(0, level, 255), 0);
        }
        Room s = Room.floor();
        s.lightAt(0, 255, 3, 0, 4);
        due("by level 12", s.pixel(0, 0), 204);
        s.set(0, 12, 7);
        due("by level 12", s.pixel(0, 0), 7);
        s.set(0, 11, 99);
        s.set(0, 13, 99);
        due("no other level", s.pixel(0, 0), 7);
    }

    private static void ambient() {
        CHECK.sentence("1 AMBIENT: what it was");
        Room r = Room.floor();
        due("at first", r.set(1, 0, 255), 0);
        due("pixel", r.pixel(0, 0), 255);
        due("set(1, 0, 0)", r.set(1, 0, 0), 255);
        due("pixel", r.pixel(0, 0), 0);
        due("set(1, 0, 1)", r.set(1, 0, 1), 0);
        due("pixel", r.pixel(0, 0), 1);
        int was = 1;
        for (int i : ODD) {
            due("i means nothing here", r.set(1, i, was + 1), was);
            was++;
        }
    }

    private static void back() {
        CHECK.sentence("2 BACK: what it was");
        Room r = new Room();
        due("at first", r.set(2, 0, 255), 0);
        due("pixel", r.pixel(0, 0), 255);
        due("set(2, 0, 0)", r.set(2, 0, 0), 255);
        due("pixel", r.pixel(0, 0), 0);
        due("set(2, 0, 1)", r.set(2, 0, 1), 0);
        int was = 1;
        for (int i : ODD) {
            due("i means nothing here", r.set(2, i, was + 1), was);
            was++;
        }
    }

    private static void tones() {
        CHECK.sentence("3 the tone of triangle i: what it was");
        Room r = Room.filled();
        int[] tones = {200, 120, 90};
        for (int i = 0; i < 3; i++) {
            due("tone of " + i, r.set(3, i, 255 - i), tones[i]);
        }
        for (int i = 0; i < 3; i++) {
            due("tone of " + i, r.set(3, i, 0), 255 - i);
        }
        due("the tree stays", r.count(2), 5);
        Room s = Room.floor();
        s.set(1, 0, 255);
        s.set(3, 0, 77);
        due("pixel", s.pixel(0, 0), 77);
    }

    private static void noneSuch() {
        CHECK.sentence("BAD, changing nothing: none such (what)");
        for (int what : Check.outside(0, 3)) {
            CHECK.refused("set(" + what + ", 0, 1)", BAD, Room::filled, r -> r.set(what, 0, 1));
        }
    }

    private static void noSuchLevel() {
        CHECK.sentence("BAD, changing nothing: none such (level)");
        for (int i : Check.outside(0, 15)) {
            CHECK.refused("set(0, " + i + ", 1)", BAD, Room::filled, r -> r.set(0, i, 1));
        }
        due("set(0, 0, 1)", Room.filled().set(0, 0, 1), 0);
        due("set(0, 15, 1)", Room.filled().set(0, 15, 1), 255);
    }

    private static void noSuchTriangle() {
        CHECK.sentence("BAD, changing nothing: none such (triangle)");
        for (int i : Check.outside(0, 2)) {
            CHECK.refused("set(3, " + i + ", 1)", BAD, Room::filled, r -> r.set(3, i, 1));
        }
        due("set(3, 0, 1)", Room.filled().set(3, 0, 1), 200);
        due("set(3, 2, 1)", Room.filled().set(3, 2, 1), 90);
        CHECK.refused("set(3, 0, 1) without triangles", BAD, Room::new, r -> r.set(3, 0, 1));
    }

    private static void noValue() {
        CHECK.sentence("BAD, changing nothing: v is not 0 .. 255");
        for (int v : Check.outside(0, 255)) {
            for (int what = 0; what <= 3; what++) {
                final int w = what;
                CHECK.refused("set(" + w + ", 1, " + v + ")", BAD, Room::filled, r -> r.set(w, 1, v));
            }
        }
        int[] was = {17, 10, 77, 120};
        for (int what = 0; what <= 3; what++) {
            Room r = Room.filled();
            due("set(" + what + ", 1, 0)", r.set(what, 1, 0), was[what]);
            due("set(" + what + ", 1, 255)", r.set(what, 1, 255), 0);
            due("set(" + what + ", 1, 9)", r.set(what, 1, 9), 255);
        }
    }

    private static void nothingElse() {
        CHECK.sentence("what it was (and nothing else changes)");
        for (int what = 0; what <= 3; what++) {
            final int w = what;
            int was = Room.filled().set(w, 1, 0);
            CHECK.refused("set(" + w + ", 1, ..) to what it is", was, () -> Room.filled().collect(1, 2, 3),
                r -> r.set(w, 1, was));
        }
    }
}
