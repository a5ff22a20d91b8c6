/** Promises 26 to 30: mark, keep, back, count, trace. */
public final class KindsTest {
    private static final Check t = new Check();

    public static void main(String[] args) {
        constants();
        mark();
        trace();
        keepAndBack();
        keepIsRefused();
        count();
        t.end();
    }

    private static void constants() {
        t.due("BAD", PaneLight.BAD, -1);
        t.due("STATE", PaneLight.STATE, -2);
        t.due("FULL", PaneLight.FULL, -3);
        t.due("NONE", PaneLight.NONE, -9);
        t.due("NO", PaneLight.NO, -1000000);
    }

    private static void mark() {
        PaneLight p = t.told("g3 4;p2 3 6;m9;s7;s3;");
        p.lays(0, 2, 3);
        p.lays(1, 2, 3);
        marks(p, 2, 3, 2, 4, -1, 8, 10, 11);
        marks(p, 0, 0, 7, 7, 7, 14, 7, 16);
        p.breaks(2, 3);
        p.moves(1, 0);
        marks(p, 2, 3, 7, 7, 4, 14, 15, 8);
    }

    private static void trace() {
        PaneLight p = t.told("g2 2;");
        long[] added = {1, 11, 101, 1011, 10101, 100001};
        long sum = 0;
        for (int kind = 0; kind < 6; kind++) {
            p.mark(kind, 1, 1);
            sum += added[kind];
            t.due("trace behind kind " + kind, p.trace(), sum);
        }
        p.mark(6, 0, 0);
        p.mark(3, 2, 0);
        t.due("a refused mark leaves none", p.trace(), sum);
        p.keep(0);
        p.mark(0, 0, 0);
        p.breaks(0, 0);
        p.undo();
        p.back(0);
        t.due("it is in no image", p.trace(), sum + 1);
        p.window();
        t.due("it stays when all is read anew", p.trace(), sum + 1);
        for (int i = 0; i < 300; i++) {
            p.mark(5, 0, 0);
        }
        t.due("it grows on", p.trace(), sum + 1 + 300L * 100001);
    }

    private static void keepAndBack() {
        PaneLight p = t.told("g3 3;p0 0 1;s1;s2;m6;y2;");
        p.lays(0, 1, 1);
        p.breaks(2, 2);
        t.due("keep", p.keep(0), 1);
        java.util.List<Long> first = Check.seen(p);
        p.moves(3, 3);
        p.takes(0);
        p.breaks(0, 0);
        p.breaks(1, 1);
        t.due("keep another", p.keep(1), 3);
        java.util.List<Long> second = Check.seen(p);
        p.mends(2, 2);
        t.due("back", p.back(0), 1);
        t.due("all as it was", Check.seen(p).equals(first) ? 1 : 0, 1);
        t.due("undo as it was then", p.undo(), 1);
        t.due("whole again", p.now(2), 0);
        t.due("undo as it was then", p.undo(), 0);
        t.due("in the box again", p.now(3), 3);
        t.due("and no more", p.undo(), Check.STATE);
        t.due("back to the other", p.back(1), 3);
        t.due("all as it was", Check.seen(p).equals(second) ? 1 : 0, 1);
        t.due("six may be undone", p.count(4), 6);
        t.due("undo", p.undo(), 5);
        t.due("whole again", p.now(2), 1 | 1 << 10);
        // what is kept does not change by what is done behind it, and may come again
        t.due("back once more", p.back(1), 3);
        t.due("all as it was", Check.seen(p).equals(second) ? 1 : 0, 1);
        t.due("kept anew", p.keep(0), 3);
        p.undo();
        t.due("back to what was kept anew", p.back(0), 3);
        t.due("back is not to be undone", p.count(4), 6);
        keptBesideNothingElse();
        keptWithTen();
    }

    private static void keptBesideNothingElse() {
        PaneLight p = t.told("g2 2;");
        p.saw(0, 0, 0, 7);
        p.keep(0);
        p.saw(1, 1, 1, 7);
        Check.type(p, "s1");
        p.back(0);
        t.due("what was seen stays", p.count(3), 2);
        t.due("the text stays", p.count(5), 2);
    }

    private static void keptWithTen() {
        PaneLight p = new PaneLight();
        for (int n = 0; n < 13; n++) {
            p.breaks(n / 4, n % 4);
        }
        p.keep(1);
        for (int n = 0; n < 7; n++) {
            p.mends(n / 4, n % 4);
        }
        t.due("back", p.back(1), 13);
        for (int n = 9; n >= 0; n--) {
            t.due("undo", p.undo(), n);
            t.due("broken", p.now(2), (1 << n + 3) - 1);
        }
        t.due("no more", p.undo(), Check.STATE);
        t.due("back", p.back(1), 13);
        t.due("ten again", p.count(4), 10);
    }

    private static void keepIsRefused() {
        PaneLight p = t.told("g2 2;");
        p.breaks(0, 0);
        t.due("none was kept", p.back(0), Check.STATE);
        t.due("none was kept", p.back(1), Check.STATE);
        p.keep(1);
        t.due("none was kept as 0", p.back(0), Check.STATE);
        t.due("kept as 1", p.back(1), 1);
    }

    private static void count() {
        PaneLight p = t.told("g3 2;s1;s1;s1;");
        p.breaks(0, 0);
        p.saw(0, 0, 0, 7);
        p.saw(0, 0, 0, 7);
        Check.type(p, "abcd");
        int[] want = {3, 2, 3, 2, 1, 4};
        for (int what = 0; what < want.length; what++) {
            t.due("count(" + what + ")", p.count(what), want[what]);
        }
    }

    /** The MARK of a PANE as each KIND in turn. */
    private static void marks(PaneLight p, int x, int y, int... want) {
        for (int kind = 0; kind < want.length; kind++) {
            t.due("mark(" + kind + ", " + x + ", " + y + ")", p.mark(kind, x, y), want[kind]);
        }
    }
}
