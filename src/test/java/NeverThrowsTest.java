import java.util.Random;

/** Rule 7 of LANGUAGE.md: no call may throw, for any arguments in any state, with all 128 triangles too. */
public final class NeverThrowsTest {
    private static final int[] WILD = {Integer.MIN_VALUE, Integer.MIN_VALUE + 1, -65536, -256, -255, -2, -1, 0, 1, 2, 3,
        4, 7, 8, 9, 10, 11, 15, 16, 31, 32, 33, 126, 127, 128, 129, 254, 255, 256, 1023, 1024, Integer.MAX_VALUE};

    private final Random random;
    private final RayRoom room = new RayRoom();

    private NeverThrowsTest(long seed) {
        random = new Random(seed);
    }

    public static void main(String[] args) {
        Check check = new Check("NeverThrowsTest");
        for (int seed = 0; seed < 40; seed++) {
            NeverThrowsTest run = new NeverThrowsTest(seed);
            run.fill(new int[] {128, 0, 1, 127}[seed % 4]);
            int k = 0;
            String thrown = "nothing";
            try {
                for (k = 0; k < 1500; k++) {
                    run.call();
                }
            } catch (RuntimeException e) {
                thrown = e.toString();
            }
            check.dueTrue("call " + k + " of run " + seed + " throws nothing, but " + thrown, k == 1500);
        }
        check.end();
    }

    private void fill(int triangles) {
        for (int i = 0; i < triangles; i++) {
            room.point(-90, -80, -i);
            room.point(90, -80, i);
            room.point(0, 90, i / 2);
            room.triangle(i);
        }
        room.point(3, 2, 200);
        room.eye();
        room.axis(0, 0, 0, -9);
    }

    private int wild() {
        return random.nextInt(3) > 0 ? random.nextInt(9) - 1 : WILD[random.nextInt(WILD.length)];
    }

    private void call() {
        int a = wild();
        int b = wild();
        int c = wild();
        switch (random.nextInt(27)) {
            case 0 -> room.point(a, b, c);
            case 1 -> room.triangle(a);
            case 2 -> room.move(a, b);
            case 3 -> room.drop();
            case 4 -> room.eye();
            case 5 -> room.axis(a, b, c, wild());
            case 6 -> room.size(a, b);
            case 7 -> room.light(a, b);
            case 8 -> room.set(a, b, c);
            case 9 -> room.build(a);
            case 10 -> room.refit();
            case 11 -> room.node(a, b);
            case 12 -> room.order(a);
            case 13 -> room.hit(a, b);
            case 14 -> room.told(a);
            case 15 -> room.cross(a, b);
            case 16 -> room.crossing(a);
            case 17 -> room.meets(a, b, c);
            case 18 -> room.lit(a, b, c);
            case 19 -> room.shadow(a, b, c);
            case 20 -> room.pixel(a, b);
            case 21 -> room.picture(a, b, c, wild());
            case 22 -> room.seen(a);
            case 23 -> room.facing(a);
            case 24 -> room.touched(a);
            case 25 -> room.shared(a, b);
            default -> room.count(a);
        }
    }
}
