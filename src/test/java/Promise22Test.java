/** Promise 22: pixel. */
public final class Promise22Test {
    private static final Check CHECK = new Check("Promise22Test");
    private static final int BAD = RayRoom.BAD;

    public static void main(String[] args) {
        back();
        ambientAlone();
        lights();
        cutOff();
        atMost255();
        litOnly();
        asManyAsMayBe();
        noStrength();
        noSuchPixel();
        CHECK.end();
    }

    private static void due(String call, long got, long want) {
        CHECK.due(call, got, want);
    }

    private static void back() {
        CHECK.sentence("A PIXEL is the BACK value (0 .. 255, at first 0), if its ray hits nothing");
        Room r = new Room();
        due("at first", r.pixel(0, 0), 0);
        for (int v : new int[] {1, 254, 255, 0}) {
            r.set(2, 0, v);
            due("back " + v, r.pixel(0, 0), v);
        }
        r.set(1, 0, 255);
        due("ambient does nothing", r.pixel(0, 0), 0);
        Room s = Room.filled();
        due("pixel(0, 0)", s.pixel(0, 0), 77);
        due("pixel(2, 0)", s.pixel(2, 0), 77);
        s.set(1, 0, 0);
        s.set(3, 1, 0);
        due("a dark triangle is not the back", s.pixel(1, 0), 0);
    }

    private static void ambientAlone() {
        CHECK.sentence("tone times AMBIENT (0 .. 255, at first 0), by 255, cut off");
        Room r = Room.floor();
        due("at first", r.pixel(0, 0), 0);
        int[][] rows = {{255, 255, 255}, {255, 0, 0}, {0, 255, 0}, {255, 1, 1}, {1, 255, 1}, {254, 254, 253},
            {1, 254, 0}, {15, 17, 1}, {15, 16, 0}, {16, 15, 0}, {200, 10, 7}, {128, 128, 64}};
        for (int[] v : rows) {
            r.set(3, 0, v[0]);
            r.set(1, 0, v[1]);
            due(v[0] + " by " + v[1], r.pixel(0, 0), v[2]);
        }
    }

    private static void lights() {
        CHECK.sentence("and for each light that has it lit its strength times the value of its level");
        Room r = Room.floor();
        r.set(3, 0, 200);
        r.set(1, 0, 10);
        r.lightAt(0, 255, 4, 0, 3);
        due("200 * (10 + 153) / 255", r.pixel(0, 0), 127);
        r.set(0, 9, 52);
        due("200 * (10 + 52) / 255", r.pixel(0, 0), 48);
        r.set(0, 8, 255);
        r.set(0, 10, 255);
        due("no other level", r.pixel(0, 0), 48);
        r.set(3, 0, 255);
        r.lightAt(1, 255, 0, 0, 9);
        r.set(0, 15, 40);
        due("10 + 52 + 40", r.pixel(0, 0), 102);
        r.lightAt(2, 255, 255, 0, 1);
        r.set(0, 0, 3);
        due("level 0 has a value too", r.pixel(0, 0), 105);
        r.lightAt(3, 255, 0, 0, 255);
        due("the last light", r.pixel(0, 0), 145);
        for (int i = 0; i < 16; i++) {
            r.set(0, i, 0);
        }
        due("values of 0", r.pixel(0, 0), 10);
    }

    private static void cutOff() {
        CHECK.sentence("by 255, cut off");
        Room r = Room.floor();
        r.lightAt(0, 101, 4, 0, 3);
        due("101 * 153 / 255 = 60.6", r.pixel(0, 0), 60);
        r.lightAt(1, 101, -4, 0, 3);
        due("each light by itself", r.pixel(0, 0), 120);
        r.lightAt(2, 101, 0, 4, 3);
        r.lightAt(3, 101, 0, -4, 3);
        due("four of them", r.pixel(0, 0), 240);
        r.set(3, 0, 254);
        due("254 * 240 / 255 = 239.06", r.pixel(0, 0), 239);
        Room s = Room.floor();
        s.lightAt(0, 1, 0, 0, 9);
        due("1 * 255 / 255", s.pixel(0, 0), 1);
        s.set(0, 15, 254);
        due("1 * 254 / 255", s.pixel(0, 0), 0);
        s.lightAt(0, 255, 0, 0, 9);
        due("255 * 254 / 255", s.pixel(0, 0), 254);
        s.lightAt(0, 254, 0, 0, 9);
        due("254 * 254 / 255", s.pixel(0, 0), 253);
    }

    private static void atMost255() {
        CHECK.sentence("but at most 255");
        Room r = Room.floor();
        for (int which = 0; which < 4; which++) {
            r.lightAt(which, 60, 0, 0, 9 + which);
        }
        r.set(1, 0, 14);
        due("254", r.pixel(0, 0), 254);
        r.set(1, 0, 15);
        due("255", r.pixel(0, 0), 255);
        r.set(1, 0, 16);
        due("256", r.pixel(0, 0), 255);
        r.set(1, 0, 255);
        due("495", r.pixel(0, 0), 255);
        r.set(3, 0, 100);
        due("100 * 495 / 255: the sum is not cut before", r.pixel(0, 0), 194);
        for (int which = 0; which < 4; which++) {
            r.lightAt(which, 255, 0, 0, 9 + which);
        }
        r.set(3, 0, 51);
        due("51 * 1275 / 255", r.pixel(0, 0), 255);
        r.set(3, 0, 50);
        due("50 * 1275 / 255", r.pixel(0, 0), 250);
        r.set(3, 0, 255);
        due("255 * 1275 / 255", r.pixel(0, 0), 255);
        r.set(3, 0, 0);
        due("0 * 1275 / 255", r.pixel(0, 0), 0);
    }

    private static void litOnly() {
        CHECK.sentence("for each light that has it lit (not for others)");
        Room r = Room.floor();
        r.set(1, 0, 5);
        r.lightAt(0, 255, 4, 0, 3);
        r.lightAt(1, 100, -4, 0, 3);
        r.lightAt(2, 255, 4, 0, -3);
        r.lightAt(3, 255, 4, 0, 0);
        due("two are lit, one is below, one on the plane", r.pixel(0, 0), 218);
        r.put(1, 2, -2, 0, 2, 2, 0, 2, 0, 5);
        due("one is in the shadow", r.pixel(0, 0), 65);
        r.moveTo(1, 2, 2, 0, 1);
        due("below the way", r.pixel(0, 0), 218);
    }

    private static void asManyAsMayBe() {
        CHECK.sentence("A PIXEL (with as many triangles as may be)");
        Room r = Room.pile(126);
        r.axis(0, 0, 0, -1);
        r.lightAt(0, 255, 0, 0, 9);
        due("pixel(0, 0)", r.pixel(0, 0), 255);
        Room all = Room.pile(128).beyondAllCalls();
        all.axis(0, 0, 0, -1);
        all.lightAt(3, 100, 0, 0, 9);
        due("pixel(0, 0) of 128", all.pixel(0, 0), 100);
    }

    private static void noStrength() {
        CHECK.sentence("a STRENGTH 0 .. 255 (0: as if there was none)");
        Room r = Room.floor();
        r.lightAt(0, 0, 0, 0, 9);
        due("strength 0", r.pixel(0, 0), 0);
        r.lightAt(0, 1, 0, 0, 9);
        due("strength 1", r.pixel(0, 0), 1);
        r.lightAt(0, 255, 0, 0, 9);
        due("strength 255", r.pixel(0, 0), 255);
    }

    private static void noSuchPixel() {
        CHECK.sentence("BAD: none such");
        for (int x : Check.outside(0, 2)) {
            CHECK.refused("pixel(" + x + ", 0)", BAD, Room::filled, r -> r.pixel(x, 0));
        }
        for (int y : Check.outside(0, 1)) {
            CHECK.refused("pixel(0, " + y + ")", BAD, Room::filled, r -> r.pixel(0, y));
        }
        due("pixel(2, 0)", Room.filled().pixel(2, 0), 77);
        CHECK.dueTrue("pixel(0, 1) is not BAD", Room.filled().pixel(0, 1) != BAD);
        Room r = new Room();
        r.size(32, 32);
        due("pixel(31, 31)", r.pixel(31, 31), 0);
        due("pixel(32, 31)", r.pixel(32, 31), BAD);
        due("pixel(31, 32)", r.pixel(31, 32), BAD);
    }
}
