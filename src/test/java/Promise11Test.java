/** Promise 11: build. */
public final class Promise11Test {
    private static final Check CHECK = new Check("Promise11Test");
    private static final int BAD = RayRoom.BAD;
    private static final int NONE = RayRoom.NONE;

    public static void main(String[] args) {
        withoutTriangles();
        notOneTo8();
        moreThanLeast();
        oddNumbers();
        asManyAsMayBe();
        eachBeforeThoseBelow();
        furthestApart();
        equalOnesByNumber();
        middlesAreSums();
        furthestMiddles();
        orderInLeaves();
        anew();
        CHECK.end();
    }

    private static void due(String call, long got, long want) {
        CHECK.due(call, got, want);
    }

    private static Room beside(int many) {
        int[] xs = new int[many];
        for (int k = 0; k < many; k++) {
            xs[k] = 10 * k;
        }
        return Room.row(xs);
    }

    private static void withoutTriangles() {
        CHECK.sentence("0 without triangles: there is no tree then");
        for (int least = 1; least <= 8; least++) {
            Room r = new Room();
            due("build(" + least + ")", r.build(least), 0);
            due("count(2)", r.count(2), 0);
            due("count(6)", r.count(6), 0);
            due("node(0, 0)", r.node(0, 0), BAD);
            due("order(0)", r.order(0), BAD);
            due("refit()", r.refit(), BAD);
            due("meets(0, 0, 0)", r.meets(0, 0, 0), BAD);
        }
        due("build(0) without triangles", new Room().build(0), BAD);
        due("build(9) without triangles", new Room().build(9), BAD);
    }

    private static void notOneTo8() {
        CHECK.sentence("BAD, changing nothing: not 1 .. 8");
        for (int least : Check.outside(1, 8)) {
            CHECK.refused("build(" + least + ")", BAD, Room::filled, r -> r.build(least));
            Room r = beside(2);
            due("build(" + least + ")", r.build(least), BAD);
            due("there is no tree", r.count(2), 0);
            r.build(2);
            r.moveTo(0, 0, -50, 0, 0);
            due("build(" + least + ")", r.build(least), BAD);
            due("the boxes stay too", r.node(0, 5), 0);
        }
        for (int least = 1; least <= 8; least++) {
            due("build(" + least + ")", beside(1).build(least), 1);
        }
    }

    private static void moreThanLeast() {
        CHECK.sentence("A node with more than LEAST (1 .. 8) of them has two below it");
        for (int least = 1; least <= 8; least++) {
            Room just = beside(least);
            due("build(" + least + ") of as many", just.build(least), 1);
            due("none below", just.node(0, 2), NONE);
            due("depth", just.count(6), 0);
            Room more = beside(least + 1);
            due("build(" + least + ") of one more", more.build(least), 3);
            due("the lower one", more.node(0, 2), 1);
            due("the upper one", more.node(0, 3), 2);
            due("depth", more.count(6), 1);
            due("build(" + least + ") of twice as many", beside(2 * least).build(least), 3);
            due("build(" + least + ") of one more still", beside(2 * least + 1).build(least), 5);
        }
    }

    private static void oddNumbers() {
        CHECK.sentence("the first half (of an odd number the lesser one) goes to the lower node");
        for (int many = 2; many <= 9; many++) {
            Room r = beside(many);
            r.build(1);
            due("lower of " + many, r.node(1, 1), many / 2);
            due("upper of " + many, r.node(r.node(0, 3), 1), many - many / 2);
            due("the upper one's first", r.node(r.node(0, 3), 0), many / 2);
        }
    }

    private static void asManyAsMayBe() {
        CHECK.sentence("how many nodes it has (with as many triangles as may be)");
        due("build(1) of 127", Room.pile(127).build(1), 253);
        due("build(2) of 127", Room.pile(127).build(2), 127);
        due("build(8) of 127", Room.pile(127).build(8), 31);
        Room r = Room.pile(128).beyondAllCalls();
        due("build(1) of 128", r.build(1), 255);
        due("depth", r.count(6), 7);
        due("the last node", r.node(254, 0), 127);
        due("the last in the order", r.order(127), 0);
        due("build(8) of 128", r.build(8), 31);
        due("build(7) of 128", r.build(7), 63);
    }

    private static void eachBeforeThoseBelow() {
        CHECK.sentence("numbered each before those below it, the lower half's before the upper half's");
        Room r = Room.row(40, 0, 30, 10, 20);
        due("build(1)", r.build(1), 9);
        CHECK.dueAll("order", r.allOrder(), 1, 3, 4, 2, 0);
        CHECK.dueAll("node 0", r.allOf(0), 0, 5, 1, 4, NONE, 0, 0, 0, 41, 1, 0);
        CHECK.dueAll("node 1", r.allOf(1), 0, 2, 2, 3, 0, 0, 0, 0, 11, 1, 0);
        CHECK.dueAll("node 2", r.allOf(2), 0, 1, NONE, NONE, 1, 0, 0, 0, 1, 1, 0);
        CHECK.dueAll("node 3", r.allOf(3), 1, 1, NONE, NONE, 1, 10, 0, 0, 11, 1, 0);
        CHECK.dueAll("node 4", r.allOf(4), 2, 3, 5, 6, 0, 20, 0, 0, 41, 1, 0);
        CHECK.dueAll("node 5", r.allOf(5), 2, 1, NONE, NONE, 4, 20, 0, 0, 21, 1, 0);
        CHECK.dueAll("node 6", r.allOf(6), 3, 2, 7, 8, 4, 30, 0, 0, 41, 1, 0);
        CHECK.dueAll("node 7", r.allOf(7), 3, 1, NONE, NONE, 6, 30, 0, 0, 31, 1, 0);
        CHECK.dueAll("node 8", r.allOf(8), 4, 1, NONE, NONE, 6, 40, 0, 0, 41, 1, 0);
        due("depth", r.count(6), 3);
    }

    /** The order of small triangles at these places, three numbers each. */
    private static void dueOrder(String why, int[] places, long... want) {
        Room r = new Room();
        for (int k = 0; k < places.length; k += 3) {
            int x = places[k];
            int y = places[k + 1];
            int z = places[k + 2];
            r.put(1, x, y, z, x + 1, y, z, x, y + 1, z);
        }
        r.build(1);
        CHECK.dueAll(why, r.allOrder(), want);
    }

    private static void furthestApart() {
        CHECK.sentence("of x, y, z that along which the MIDDLES lie furthest apart (of several the first of these)");
        dueOrder("x as far as y", new int[] {30, 0, 0, 0, 30, 0}, 1, 0);
        dueOrder("y as far as z", new int[] {0, 30, 0, 0, 0, 30}, 1, 0);
        dueOrder("x as far as z", new int[] {30, 0, 0, 0, 0, 30}, 1, 0);
        dueOrder("all as far", new int[] {30, 0, 0, 0, 30, 30}, 1, 0);
        dueOrder("y further", new int[] {0, 31, 0, 30, 0, 0}, 1, 0);
        dueOrder("z further than x", new int[] {0, 0, 31, 30, 0, 0}, 1, 0);
        dueOrder("z further than y", new int[] {0, 0, 31, 0, 30, 0}, 1, 0);
        dueOrder("z further than both", new int[] {0, 0, 31, 30, 30, 0}, 1, 0);
        dueOrder("x further", new int[] {31, 0, 0, 0, 30, 30}, 1, 0);
        dueOrder("from one end to the other", new int[] {254, 0, 0, -255, 254, 0}, 1, 0);
        dueOrder("below 0", new int[] {-10, -90, 0, -30, -50, 0, -20, -70, 0}, 0, 2, 1);
        // First along x into 1, 3 and 0, 2, then each half along y.
        dueOrder("each node by its own", new int[] {100, 9, 0, 0, 9, 0, 101, 0, 0, 1, 0, 0}, 3, 1, 2, 0);
    }

    private static void equalOnesByNumber() {
        CHECK.sentence("by these sums, of equal ones by number");
        dueOrder("all at one place", new int[] {5, 5, 5, 5, 5, 5, 5, 5, 5}, 0, 1, 2);
        dueOrder("two of three", new int[] {9, 1, 1, 0, 2, 2, 0, 0, 0}, 1, 2, 0);
        dueOrder("two of three above", new int[] {9, 0, 0, 0, 2, 2, 9, 0, 0}, 1, 0, 2);
        // Along x node 0 goes 1, 2 and 0, 3; then 1, 2 along y; the upper two have one place.
        dueOrder("by number again below", new int[] {9, 0, 0, 0, 5, 0, 0, 0, 0, 9, 0, 0}, 2, 1, 0, 3);
        int[] eight = new int[24];
        dueOrder("eight at one place", eight, 0, 1, 2, 3, 4, 5, 6, 7);
        // Along z node 0 goes 3, 2, 1 and 0, 4, 5; below it 1 and 2 are equal along x.
        dueOrder("by number, not by the order above",
            new int[] {0, 0, 180, 0, 0, 20, 0, 0, 10, 50, 0, 0, 0, 0, 190, 0, 0, 200}, 1, 2, 3, 0, 4, 5);
    }

    private static void middlesAreSums() {
        CHECK.sentence("the MIDDLES (sums of the three corners' coordinates)");
        Room r = new Room();
        // Both boxes have the same middle, but the sums are 60 and 45.
        r.put(1, 0, 0, 0, 30, 0, 0, 30, 1, 0);
        r.put(1, 14, 0, 0, 16, 0, 0, 15, 1, 0);
        r.build(1);
        CHECK.dueAll("by sums", r.allOrder(), 1, 0);
        Room s = new Room();
        // The sums differ by 1, which no third of them would show.
        s.put(1, 0, 0, 0, 3, 0, 0, 1, 2, 0);
        s.put(1, 0, 0, 0, 3, 0, 0, 0, 2, 0);
        s.build(1);
        CHECK.dueAll("by sums, not by thirds cut off", s.allOrder(), 1, 0);
        // One step in one coordinate of one corner is enough.
        for (int k = 0; k < 9; k++) {
            int[] corners = {7, -9, 20, -30, 8, -1, 2, 3, -40};
            Room t = new Room();
            corners[k]++;
            t.put(1, corners);
            corners[k]--;
            t.put(1, corners);
            t.build(1);
            CHECK.dueAll("corner " + k / 3 + ", axis " + k % 3, t.allOrder(), 1, 0);
        }
    }

    private static void furthestMiddles() {
        CHECK.sentence("along which the MIDDLES lie furthest apart (not the corners)");
        Room r = new Room();
        // The corners reach furthest along y, the middles along x.
        r.put(1, 10, -200, 0, 10, 200, 0, 10, 0, 1);
        r.put(1, 0, -100, 0, 0, 103, 0, 0, 0, 1);
        r.build(1);
        CHECK.dueAll("along x", r.allOrder(), 1, 0);
    }

    private static void orderInLeaves() {
        CHECK.sentence("The ORDER of triangles is that of all nodes so");
        Room r = Room.row(40, 0, 30, 10, 20);
        due("build(2)", r.build(2), 5);
        CHECK.dueAll("as the node above has sorted them", r.allOrder(), 1, 3, 4, 2, 0);
        due("build(4)", r.build(4), 3);
        CHECK.dueAll("as the node above has sorted them", r.allOrder(), 1, 3, 4, 2, 0);
        due("build(5)", r.build(5), 1);
        CHECK.dueAll("one node has them by number", r.allOrder(), 0, 1, 2, 3, 4);
    }

    private static void anew() {
        CHECK.sentence("The tree is built with a LEAST: how many nodes it has (one more time)");
        Room r = Room.row(40, 0, 30, 10, 20);
        due("build(1)", r.build(1), 9);
        due("build(8)", r.build(8), 1);
        due("count(2)", r.count(2), 1);
        due("count(6)", r.count(6), 0);
        due("node 1 is no more", r.node(1, 0), BAD);
        due("build(1)", r.build(1), 9);
        r.moveTo(1, 0, 200, 0, 0);
        r.moveTo(1, 1, 201, 0, 0);
        r.moveTo(1, 2, 200, 1, 0);
        due("build(1)", r.build(1), 9);
        CHECK.dueAll("with the corners as they are now", r.allOrder(), 3, 4, 2, 0, 1);
        due("and boxes", r.node(0, 8), 201);
        due("nothing to fit", r.refit(), 0);
        CHECK.refused("build(1) as it was", 5, () -> Room.filled().collect(1, 2, 3), s -> s.build(1));
    }
}
