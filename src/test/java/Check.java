import java.util.ArrayList;
import java.util.List;

/** What the tests share: answers that are due, windows told by a text, and all of an object that can be seen. */
final class Check {
    static final int BAD = PaneLight.BAD, STATE = PaneLight.STATE, FULL = PaneLight.FULL, NONE = PaneLight.NONE;

    private int asked;
    private int wrong;

    void due(String call, long got, long want) {
        asked++;
        if (got != want) {
            wrong++;
            System.out.println(call + " answered " + got + ", due is " + want);
        }
    }

    void end() {
        System.out.println(asked + " answers, " + wrong + " not as due");
        if (wrong != 0) {
            System.exit(1);
        }
    }

    static void type(PaneLight p, String text) {
        for (int i = 0; i < text.length(); i++) {
            p.type(text.charAt(i));
        }
    }

    PaneLight told(String text) {
        PaneLight p = new PaneLight();
        type(p, text);
        asked++;
        if (p.window() < 0) {
            wrong++;
            System.out.println("refused: " + text);
        }
        return p;
    }

    /** What tells all of an object without changing it, in few calls, as an object may have 512 at most. */
    static List<Long> seen(PaneLight p) {
        List<Long> all = new ArrayList<>();
        for (int what = 0; what < 7; what++) {
            all.add((long) p.count(what));
            all.add((long) p.now(what));
        }
        for (int x = 0; x < 5; x++) {
            for (int y = 0; y < 4; y++) {
                all.add((long) p.pane(x, y, 0));
                all.add((long) p.pane(x, y, 2));
            }
        }
        for (int s = 0; s < 8; s++) {
            all.add((long) p.sheet(s, 0));
        }
        all.add((long) p.suspects());
        all.add(p.trace());
        return all;
    }
}
