import java.util.Arrays;

/** Compares answers with those that are due, and ends a test. */
final class Check {
    private final String name;
    private int asked = 0;
    private int wrong = 0;

    Check(String name) {
        this.name = name;
    }

    void due(String call, long got, long want) {
        asked++;
        if (got != want) {
            wrong++;
            System.out.println(name + ": " + call + " answered " + got + ", due is " + want);
        }
    }

    void dueAll(String call, long[] got, long... want) {
        asked++;
        if (!Arrays.equals(got, want)) {
            wrong++;
            System.out.println(name + ": " + call + " answered " + Arrays.toString(got)
                + ", due is " + Arrays.toString(want));
        }
    }

    void dueTrue(String what, boolean holds) {
        asked++;
        if (!holds) {
            wrong++;
            System.out.println(name + ": not so: " + what);
        }
    }

    int wrong() {
        return wrong;
    }

    void end() {
        System.out.println(name + ": " + asked + " answers, " + wrong + " wrong");
        if (wrong != 0 || asked == 0) {
            System.exit(1);
        }
    }
}
