/** Promise 5: drop. */
public final class Promise05Test {
    private static final Check CHECK = new Check("Promise05Test");
    private static final int[] THREE = {1, 2, 3, 4, 5, 7, 8, 9, 9};

    public static void main(String[] args) {
        howMany();
        nothingThere();
        nothingElse();
        CHECK.end();
    }

    private static Room with(int many) {
        return Room.filled().collect(java.util.Arrays.copyOf(THREE, 3 * many));
    }

    private static void howMany() {
        CHECK.sentence("The points that were collected are gone: how many");
        for (int many = 0; many <= 3; many++) {
            Room r = with(many);
            CHECK.due("drop()", r.drop(), many);
            CHECK.due("count(1)", r.count(1), 0);
            CHECK.due("drop() again", r.drop(), 0);
        }
        Room r = with(3);
        r.point(1, 1, 1);
        CHECK.due("drop() after a fourth that was refused", r.drop(), 3);
    }

    private static void nothingThere() {
        CHECK.sentence("how many (none)");
        CHECK.due("drop()", new Room().drop(), 0);
        CHECK.refused("drop()", 0, Room::filled, Room::drop);
    }

    private static void nothingElse() {
        CHECK.sentence("The points that were collected are gone (and nothing else)");
        for (int many = 1; many <= 3; many++) {
            final int n = many;
            Room r = with(n);
            r.drop();
            CHECK.dueTrue("only the points are gone", r.everything().equals(Room.filled().everything()));
        }
    }
}
