import java.util.ArrayList;
import java.util.List;
import java.util.Random;

/** Long runs of calls that are drawn with fixed seeds, each answer compared with the model's. */
public final class OracleTest {
    private static final int CALLS = 512;
    private static final int[] WILD = {Integer.MIN_VALUE, Integer.MIN_VALUE + 1, -1024, -256, -3, -2, -1, 0, 1, 2, 3,
        4, 5, 8, 9, 10, 11, 16, 32, 33, 128, 255, 256, 1023, 1024, Integer.MAX_VALUE};

    private final Check check;
    private final Random random;
    private final RayRoom room = new RayRoom();
    private final Model model = new Model();
    private final List<String> said = new ArrayList<>();
    private final int kind;
    private final int span;
    private final int enough;

    private OracleTest(Check check, long seed) {
        this.check = check;
        this.random = new Random(seed);
        this.kind = (int) (seed % 6);
        this.span = new int[] {2, 4, 12, 60, 255, 255}[kind];
        this.enough = new int[] {1, 2, 3, 4, 6, 9, 14, 60}[(int) (seed / 6 % 8)];
    }

    public static void main(String[] args) {
        Check check = new Check("OracleTest");
        long from = args.length > 0 ? Long.parseLong(args[0]) : 0;
        long runs = args.length > 1 ? Long.parseLong(args[1]) : 240;
        for (long seed = from; seed < from + runs && check.wrong() == 0; seed++) {
            new OracleTest(check, seed).run(seed);
        }
        check.end();
    }

    private void run(long seed) {
        for (int k = 0; k < CALLS && check.wrong() == 0; k++) {
            step(k);
        }
        if (check.wrong() != 0) {
            System.out.println("the calls of seed " + seed + ":");
            said.forEach(System.out::println);
        }
    }

    private void due(String call, long got, long want) {
        said.add("  " + call + " = " + want);
        check.due(call, got, want);
    }

    private int coordinate() {
        if (kind == 5 && random.nextInt(3) > 0) {
            return random.nextBoolean() ? 255 : -255;
        }
        return random.nextInt(2 * span + 1) - span;
    }

    private int[] someCorner() {
        Model.Vec corner = model.tris.get(random.nextInt(model.tris.size())).corner[random.nextInt(3)];
        return new int[] {corner.x().n().intValueExact(), corner.y().n().intValueExact(),
            corner.z().n().intValueExact()};
    }

    private int wild() {
        return WILD[random.nextInt(WILD.length)];
    }

    /** Mostly 0 .. end - 1, at times an edge or anything. */
    private int index(int end) {
        int r = random.nextInt(24);
        if (r == 0) {
            return wild();
        }
        if (r == 1) {
            return random.nextBoolean() ? -1 : end;
        }
        return end > 0 ? random.nextInt(end) : 0;
    }

    private int value() {
        int r = random.nextInt(12);
        return r == 0 ? wild() : r < 3 ? 255 : random.nextInt(256);
    }

    private void collect() {
        int x = coordinate();
        int y = coordinate();
        int z = coordinate();
        if (!model.tris.isEmpty() && random.nextInt(4) == 0) {
            // A corner once more: shared corners, flat boxes, rays along edges.
            int[] corner = someCorner();
            x = corner[0];
            y = corner[1];
            z = random.nextInt(4) == 0 ? z : corner[2];
        }
        if (random.nextInt(40) == 0) {
            x = wild();
        } else if (random.nextInt(40) == 0) {
            z = wild();
        } else if (random.nextInt(40) == 0) {
            y = wild();
        }
        due("point(" + x + ", " + y + ", " + z + ")", room.point(x, y, z), model.point(x, y, z));
    }

    private void collectUpTo(int n) {
        if (random.nextInt(16) == 0) {
            return;
        }
        if (model.points.size() > n) {
            due("drop()", room.drop(), model.drop());
        }
        for (int k = 0; k < 4 && model.points.size() < n; k++) {
            collect();
        }
    }

    private void step(int k) {
        int r = k < 25 ? random.nextInt(20) : random.nextInt(100);
        if (r < 8) {
            if (model.tris.size() >= enough && random.nextInt(60) > 0) {
                askRay();
                return;
            }
            collectUpTo(3);
            int tone = value();
            due("triangle(" + tone + ")", room.triangle(tone), model.triangle(tone));
        } else if (r < 10) {
            collectUpTo(1);
            due("eye()", room.eye(), model.eye());
        } else if (r < 13) {
            turn();
        } else if (r < 15) {
            frame();
        } else if (r < 17) {
            collectUpTo(1);
            int which = index(4);
            int strength = value();
            due("light(" + which + ", " + strength + ")", room.light(which, strength), model.light(which, strength));
        } else if (r < 19) {
            change();
        } else if (r < 20) {
            collect();
        } else if (r < 23) {
            collectUpTo(1);
            int i = index(model.tris.size());
            int corner = index(3);
            due("move(" + i + ", " + corner + ")", room.move(i, corner), model.move(i, corner));
        } else if (r < 45) {
            askTree();
        } else if (r < 75) {
            askRay();
        } else {
            askRest();
        }
    }

    private void turn() {
        int which = index(3);
        int reach = kind >= 4 ? which == 0 ? 1023 : 40 : which == 0 ? 8 : 3;
        int x = random.nextInt(2 * reach + 1) - reach;
        int y = random.nextInt(2 * reach + 1) - reach;
        int z = random.nextInt(2 * reach + 1) - reach;
        if (!model.tris.isEmpty() && random.nextInt(3) == 0) {
            // Straight at a corner, where edges are met.
            int[] corner = someCorner();
            which = 0;
            x = corner[0] - model.eye.x().n().intValueExact();
            y = corner[1] - model.eye.y().n().intValueExact();
            z = corner[2] - model.eye.z().n().intValueExact();
        }
        if (random.nextInt(20) == 0) {
            x = wild();
        }
        if (random.nextInt(20) == 0) {
            y = 1023;
        }
        if (random.nextInt(20) == 0) {
            z = 0;
        }
        due("axis(" + which + ", " + x + ", " + y + ", " + z + ")", room.axis(which, x, y, z),
            model.axis(which, x, y, z));
    }

    private void frame() {
        int w = random.nextInt(10) == 0 ? wild() : 1 + random.nextInt(5);
        int h = random.nextInt(10) == 0 ? wild() : 1 + random.nextInt(5);
        if ((long) w * h > 64 && random.nextInt(4) > 0) {
            h = 1;
        }
        due("size(" + w + ", " + h + ")", room.size(w, h), model.size(w, h));
    }

    private void change() {
        int what = index(4);
        int i = what == 0 ? index(16) : index(model.tris.size());
        int v = value();
        due("set(" + what + ", " + i + ", " + v + ")", room.set(what, i, v), model.set(what, i, v));
    }

    private void askTree() {
        int r = random.nextInt(10);
        if (r < 3) {
            int least = random.nextInt(4) == 0 ? index(9) : 1 + random.nextInt(3);
            due("build(" + least + ")", room.build(least), model.build(least));
        } else if (r < 4) {
            due("refit()", room.refit(), model.refit());
        } else if (r < 7) {
            int i = index(model.nodes.size());
            int what = index(11);
            due("node(" + i + ", " + what + ")", room.node(i, what), model.node(i, what));
        } else if (r < 9) {
            int k = index(model.order.size());
            due("order(" + k + ")", room.order(k), model.order(k));
        } else {
            int what = index(8);
            due("count(" + what + ")", room.count(what), model.count(what));
        }
    }

    private void askRay() {
        int x = index(model.w);
        int y = index(model.h);
        String at = x + ", " + y;
        int r = random.nextInt(10);
        if (r < 2) {
            due("hit(" + at + ")", room.hit(x, y), model.hit(x, y));
        } else if (r < 4) {
            int what = index(11);
            due("told(" + what + ")", room.told(what), model.told(what));
        } else if (r < 5) {
            due("cross(" + at + ")", room.cross(x, y), model.cross(x, y));
        } else if (r < 6) {
            int k = index(model.crossed.size());
            due("crossing(" + k + ")", room.crossing(k), model.crossing(k));
        } else if (r < 7) {
            int what = index(2);
            due("meets(" + at + ", " + what + ")", room.meets(x, y, what), model.meets(x, y, what));
        } else if (r < 8) {
            int which = index(4);
            due("lit(" + at + ", " + which + ")", room.lit(x, y, which), model.lit(x, y, which));
        } else if (r < 9) {
            int which = index(4);
            due("shadow(" + at + ", " + which + ")", room.shadow(x, y, which), model.shadow(x, y, which));
        } else {
            due("pixel(" + at + ")", room.pixel(x, y), model.pixel(x, y));
        }
    }

    private void askRest() {
        int r = random.nextInt(20);
        if (r < 1) {
            boolean small = model.w * model.h <= 32;
            int x = random.nextInt(3) == 0 ? wild() : random.nextInt(6) - 2;
            int y = random.nextInt(3) == 0 ? wild() : random.nextInt(6) - 2;
            int w = random.nextInt(3) == 0 && small ? wild() : random.nextInt(6) - 1;
            int h = random.nextInt(3) == 0 && small ? wild() : random.nextInt(6) - 1;
            due("picture(" + x + ", " + y + ", " + w + ", " + h + ")", room.picture(x, y, w, h),
                model.picture(x, y, w, h));
        } else if (r < 2) {
            if (model.w * model.h <= 64 || random.nextInt(10) == 0) {
                int k = index(4) - random.nextInt(2);
                due("seen(" + k + ")", room.seen(k), model.seen(k));
            }
        } else if (r < 6) {
            int i = index(model.tris.size());
            due("facing(" + i + ")", room.facing(i), model.facing(i));
        } else if (r < 12) {
            collectUpTo(2 + random.nextInt(2));
            int k = index(model.tris.size()) - random.nextInt(2);
            due("touched(" + k + ")", room.touched(k), model.touched(k));
            due("touched(-1)", room.touched(-1), model.touched(-1));
        } else if (r < 16) {
            int i = index(model.tris.size());
            int j = index(model.tris.size());
            due("shared(" + i + ", " + j + ")", room.shared(i, j), model.shared(i, j));
        } else {
            int what = index(8);
            due("count(" + what + ")", room.count(what), model.count(what));
        }
    }
}
