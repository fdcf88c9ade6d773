/** Promise 9: light. */
public final class Promise09Test {
    private static final Check CHECK = new Check("Promise09Test");
    private static final int BAD = RayRoom.BAD;

    public static void main(String[] args) {
        isAtThePoint();
        eachLight();
        noSuchLight();
        noSuchStrength();
        notJustOne();
        CHECK.end();
    }

    private static void due(String call, long got, long want) {
        CHECK.due(call, got, want);
    }

    private static Room withOne() {
        return Room.filled().collect(1, 2, 30);
    }

    private static void isAtThePoint() {
        CHECK.sentence("A light is at the one point that was collected, which is gone then: 0");
        Room r = Room.floor();
        due("light(0, 255)", r.lightAt(0, 255, 3, 0, 4), 0);
        due("points that are left", r.count(1), 0);
        due("its level", r.lit(0, 0, 0), 12);
        due("elsewhere", r.lightAt(0, 255, 4, 0, 3), 0);
        due("its level", r.lit(0, 0, 0), 9);
        due("far up", r.lightAt(0, 255, 0, 0, 255), 0);
        due("its level", r.lit(0, 0, 0), 15);
        due("far away", r.lightAt(0, 255, -255, 255, 1), 0);
        due("its level", r.lit(0, 0, 0), 0);
        due("far down", r.lightAt(0, 255, 255, -255, -255), 0);
        due("its level", r.lit(0, 0, 0), RayRoom.NONE);
        Room s = withOne();
        due("light(2, 9)", s.light(2, 9), 0);
        due("told(0) stays", s.told(0), 1);
        due("crossings stay", s.count(7), 3);
        due("the tree stays", s.count(2), 5);
    }

    private static void eachLight() {
        CHECK.sentence("LIGHTS 0 .. 3 with a STRENGTH 0 .. 255 (0: as if there was none)");
        Room r = Room.floor();
        for (int which = 0; which < 4; which++) {
            due("light(" + which + ", 20)", r.lightAt(which, 20 + which, 0, 0, 9), 0);
            due("lights", r.count(5), which + 1);
            due("the others stay", r.pixel(0, 0), 20 * (which + 1) + which * (which + 1) / 2);
        }
        for (int which = 0; which < 4; which++) {
            due("light(" + which + ", 0)", r.lightAt(which, 0, 0, 0, 9), 0);
            due("lights", r.count(5), 3 - which);
        }
        due("pixel without any", r.pixel(0, 0), 0);
        due("a light of 1", r.lightAt(3, 1, 0, 0, 9), 0);
        due("lights", r.count(5), 1);
        due("pixel", r.pixel(0, 0), 1);
        due("a light of 255", r.lightAt(3, 255, 0, 0, 9), 0);
        due("lights", r.count(5), 1);
        due("pixel", r.pixel(0, 0), 255);
    }

    private static void noSuchLight() {
        CHECK.sentence("BAD (what is collected stays): no such light");
        for (int which : Check.outside(0, 3)) {
            CHECK.refused("light(" + which + ", 1)", BAD, Promise09Test::withOne, r -> r.light(which, 1));
            CHECK.refused("light(" + which + ", 0)", BAD, Promise09Test::withOne, r -> r.light(which, 0));
        }
        due("light(0, 1)", withOne().light(0, 1), 0);
        due("light(3, 1)", withOne().light(3, 1), 0);
    }

    private static void noSuchStrength() {
        CHECK.sentence("BAD (what is collected stays): no such strength");
        for (int strength : Check.outside(0, 255)) {
            CHECK.refused("light(0, " + strength + ")", BAD, Promise09Test::withOne, r -> r.light(0, strength));
            CHECK.refused("light(3, " + strength + ")", BAD, Promise09Test::withOne, r -> r.light(3, strength));
        }
        due("light(0, 0)", withOne().light(0, 0), 0);
        due("light(0, 255)", withOne().light(0, 255), 0);
    }

    private static void notJustOne() {
        CHECK.sentence("BAD (what is collected stays): not just one");
        CHECK.refused("no point", BAD, Room::filled, r -> r.light(0, 1));
        CHECK.refused("two points", BAD, () -> Room.filled().collect(1, 2, 30, 4, 5, 7), r -> r.light(0, 1));
        CHECK.refused("three points", BAD, () -> Room.filled().collect(1, 2, 30, 4, 5, 7, 8, 9, 9), r -> r.light(3, 1));
        due("no point in a new object", new Room().light(0, 1), BAD);
    }
}
