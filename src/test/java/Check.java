import java.util.Arrays;
import java.util.function.Consumer;
import java.util.function.Supplier;
import java.util.function.ToLongFunction;

/** Compares answers with those that are due, and ends a test. */
final class Check {
    private final String name;
    private String sentence = "";
    private int sentences = 0;
    private int asked = 0;
    private int wrong = 0;

    Check(String name) {
        this.name = name;
    }

    /** The words of the document that the answers from here on are about. */
    void sentence(String words) {
        sentence = " (" + words + ")";
        sentences++;
    }

    void due(String call, long got, long want) {
        note(got == want, call + " answered " + got + ", due is " + want);
    }

    void dueAll(String call, long[] got, long... want) {
        note(Arrays.equals(got, want),
            call + " answered " + Arrays.toString(got) + ", due is " + Arrays.toString(want));
    }

    void dueTrue(String what, boolean holds) {
        note(holds, "not so: " + what);
    }

    private void note(boolean right, String fault) {
        asked++;
        if (!right) {
            wrong++;
            System.out.println(name + sentence + ": " + fault);
        }
    }

    /** A call that is refused: its answer, and that the room is as if it had not been made. */
    void refused(String call, long want, Supplier<Room> made, ToLongFunction<Room> ask) {
        changesLike(call, want, made, ask, r -> { });
    }

    /** A call's answer, and that it leaves the room just as another call would. */
    void changesLike(String call, long want, Supplier<Room> made, ToLongFunction<Room> ask, Consumer<Room> other) {
        Room asked = made.get();
        due(call, ask.applyAsLong(asked), want);
        Room twin = made.get();
        other.accept(twin);
        note(asked.everything().equals(twin.everything()), call + " changes what it should not");
    }

    /** Numbers below the first and above the last one: the nearest, such as a narrower type cuts off, the furthest. */
    static int[] outside(int first, int last) {
        return new int[] {first - 1, last + 1, first - 256, last + 256, first - 65536, last + 65536,
            Integer.MIN_VALUE, Integer.MAX_VALUE};
    }

    int wrong() {
        return wrong;
    }

    void end() {
        System.out.println(name + ": " + (sentences > 0 ? sentences + " sentences, " : "")
            + asked + " answers, " + wrong + " wrong");
        if (wrong != 0 || asked == 0) {
            System.exit(1);
        }
    }
}
