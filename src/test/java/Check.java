import java.util.ArrayList;
import java.util.Arrays;
import java.util.List;
import java.util.function.LongSupplier;
import java.util.function.ToLongFunction;

/** What the tests share: answers that are due, windows told by a text, and all of an object that can be seen. */
final class Check {
    static final int BAD = PaneLight.BAD, STATE = PaneLight.STATE, FULL = PaneLight.FULL, NONE = PaneLight.NONE;

    private int asked;
    private int wrong;

    void due(String call, long got, long want) {
        asked++;
        if (got != want) {
            wrong++;
            System.out.println(call + " answered " + got + ", due is " + want);
        }
    }

    /** A refused call: the answer is due, and nothing that can be seen has changed by it. */
    void refused(PaneLight p, String call, LongSupplier made, long want) {
        List<Long> before = seen(p);
        due(call, made.getAsLong(), want);
        asked++;
        if (!seen(p).equals(before)) {
            wrong++;
            System.out.println(call + " was refused, but changed something");
        }
    }

    /** Each number in turn below its least, above its greatest and far off, the others being at their least: all refused. */
    void outOfBounds(PaneLight p, String name, ToLongFunction<int[]> call, long want, int... leastAndMost) {
        for (int i = 0; i < leastAndMost.length / 2; i++) {
            for (int off : new int[] {leastAndMost[2 * i] - 1, leastAndMost[2 * i + 1] + 1, -1000, 1000, Integer.MIN_VALUE, Integer.MAX_VALUE}) {
                int[] numbers = new int[leastAndMost.length / 2];
                for (int j = 0; j < numbers.length; j++) {
                    numbers[j] = j == i ? off : leastAndMost[2 * j];
                }
                refused(p, name + Arrays.toString(numbers), () -> call.applyAsLong(numbers), want);
            }
        }
    }

    void end() {
        System.out.println(asked + " answers, " + wrong + " not as due");
        if (wrong != 0) {
            System.exit(1);
        }
    }

    static void type(PaneLight p, String text) {
        for (int i = 0; i < text.length(); i++) {
            p.type(text.charAt(i));
        }
    }

    PaneLight told(String text) {
        PaneLight p = new PaneLight();
        type(p, text);
        asked++;
        if (p.window() < 0) {
            wrong++;
            System.out.println("refused: " + text);
        }
        return p;
    }

    /** Everything that is answered without changing anything. */
    static List<Long> seen(PaneLight p) {
        List<Long> all = new ArrayList<>();
        for (int what = 0; what < 7; what++) {
            all.add((long) p.count(what));
            all.add((long) p.now(what));
        }
        for (int x = 0; x < 5; x++) {
            for (int y = 0; y < 4; y++) {
                for (int what = 0; what < 4; what++) {
                    all.add((long) p.pane(x, y, what));
                }
            }
        }
        for (int s = 0; s < 8; s++) {
            all.add((long) p.sheet(s, 0));
            all.add((long) p.sheet(s, 1));
        }
        all.add((long) p.suspects());
        all.add(p.trace());
        return all;
    }
}
