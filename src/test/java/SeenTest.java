/** Promises 21 to 25: saw, forget, suspects, glasses, look. */
public final class SeenTest {
    private static final Check t = new Check();

    public static void main(String[] args) {
        saw();
        forget();
        suspects();
        suspectsByMirror();
        glasses();
        look();
        t.end();
    }

    private static void saw() {
        PaneLight p = t.told("g2 2;");
        t.due("saw the least", p.saw(0, 0, 0, 0), 1);
        t.due("saw the greatest", p.saw(11, 6, 7, 7), 2);
        for (int n = 3; n <= 6; n++) {
            t.due("saw the same again", p.saw(0, 0, 0, 7), n);
        }
        t.due("a seventh", p.saw(0, 0, 0, 7), Check.FULL);
        t.due("may not be undone", p.count(4), 0);
    }

    private static void forget() {
        PaneLight p = new PaneLight();
        t.due("nothing was seen", p.forget(), 0);
        p.saw(0, 0, 0, 3);
        p.saw(0, 0, 0, 5);
        t.due("no suspects", p.suspects(), 0);
        t.due("forget", p.forget(), 2);
        t.due("count", p.count(3), 0);
        t.due("suspects again", p.suspects(), (1 << 21) - 1);
        t.due("saw again", p.saw(0, 0, 0, 7), 1);
        t.due("suspects", p.suspects(), (1 << 21) - 1);
    }

    private static void suspects() {
        PaneLight p = t.told("g2 2;p0 0 1;p0 1 2;p1 0 4;p1 1 7;s3;");
        int all = 1 | 2 | 16 | 32 | 1 << 20;
        t.due("nothing seen", p.suspects(), all);
        p.saw(0, 0, 0, 1);
        t.due("not (0, 0)", p.suspects(), all & ~1);
        p.saw(1, 1, 0, 7);
        t.due("a clear one that is broken can't be told", p.suspects(), all & ~1);
        p.saw(1, 0, 0, 7);
        t.due("(1, 0)", p.suspects(), 16);
        p.saw(0, 1, 0, 7);
        t.due("two at once are none", p.suspects(), 0);
        p.forget();
        p.saw(0, 1, 0, 7);
        t.due("(0, 1)", p.suspects(), 2);
        p.breaks(0, 1);
        t.due("it is broken: all but that", p.suspects(), all & ~2);
        p.forget();
        p.lays(0, 1, 1);
        p.saw(1, 1, 0, 7);
        t.due("its sheet would go into the box", p.suspects(), 32);
        p.forget();
        p.saw(1, 1, 0, 3);
        t.due("all but that and the broken one", p.suspects(), all & ~2 & ~32);
        t.due("nothing is changed", p.now(2), 2);
        p.forget();
        p.saw(11, 6, 7, 0);
        t.due("where nothing falls", p.suspects(), all & ~2);
        p.saw(11, 6, 7, 1);
        t.due("where nothing can fall", p.suspects(), 0);
    }

    private static void suspectsByMirror() {
        // at HOUR 1, column 1 has PANE (0, 0) by itself, (1, 0) by the MIRROR at 2
        PaneLight p = t.told("g2 1;p0 0 1;p1 0 2;m2;");
        p.saw(1, 0, 1, 7);
        t.due("either", p.suspects(), 1 | 16);
        p.saw(0, 0, 2, 7);
        t.due("that which comes to column 0 by the mirror at 2", p.suspects(), 16);
        p.moves(12, 0);
        t.due("without it", p.suspects(), 0);
        p.undo();
        p.moves(2, 1);
        t.due("in another season", p.suspects(), 0);
    }

    private static void glasses() {
        PaneLight p = t.told("g2 2;p0 0 1;s3;s6;");
        t.due("nothing seen", p.glasses(0, 0), 255);
        p.saw(0, 0, 0, 5);
        t.due("5 alone", p.glasses(0, 0), 1 << 5);
        t.due("another pane can't help", p.glasses(1, 0), 0);
        p.forget();
        p.lays(0, 0, 0);
        p.saw(0, 0, 0, 1);
        t.due("behind a sheet", p.glasses(0, 0), 1 << 1 | 1 << 5);
        t.due("any glass of another", p.glasses(1, 1), 255);
        p.breaks(0, 0);
        t.due("were it not broken", p.glasses(0, 0), 1 << 1);
        t.due("another one", p.glasses(1, 1), 0);
        p.saw(0, 0, 0, 2);
        t.due("two that can't be", p.glasses(0, 0), 0);
        // by the MIRROR: at HOUR 1, column 1 has both
        PaneLight q = t.told("g2 1;p0 0 1;p1 0 2;m2;");
        q.saw(1, 0, 1, 3);
        t.due("with another", q.glasses(0, 0), 1 << 1 | 1 << 3);
        t.due("with another", q.glasses(1, 0), 1 << 2 | 1 << 3);
    }

    private static void look() {
        t.due("all alike everywhere", new PaneLight().look(), 0);
        // of (0, 0), (0, 1), (1, 0), (1, 1) and none, one can be told from the others
        PaneLight p = t.told("g2 2;p0 0 7;p0 1 2;p1 0 7;p1 1 7;");
        t.due("the one that is not clear", p.look(), 8 * 1);
        PaneLight q = t.told("g2 1;p0 0 7;p1 0 2;");
        t.due("at the first hour on its tile", q.look(), 8 * 7);
        t.due("on the last column that can be", t.told("p4 3 0;y3;").look(), 8 * (7 * 4 + 6));
        t.due("not ahead of its hour", t.told("g1 1;p0 0 2;m1;").look(), 0);
        // at HOUR 1, column 1 has both by the MIRROR at 2: that tells two from the other
        PaneLight r = t.told("g2 1;p0 0 1;p1 0 2;m2;");
        t.due("two of three or one", r.look(), 0);
        PaneLight s = t.told("g3 1;p0 0 1;p1 0 2;p2 0 3;m2;");
        t.due("(1, 0) by itself, (2, 0) by the mirror", s.look(), 8 * 7);
        s.saw(1, 0, 0, 7);
        t.due("suspects", s.suspects(), 1 << 4 | 1 << 8);
        t.due("column 0 at hour 1 has (2, 0) by the mirror", s.look(), 8 * 0 + 1);
        s.saw(0, 0, 1, 7);
        t.due("one is left", s.suspects(), 1 << 8);
        t.due("any place tells as much", s.look(), 0);
        s.saw(0, 0, 1, 0);
        t.due("none is left", s.look(), Check.NONE);
        t.due("nothing is changed", s.count(3), 3);
        // a broken PANE is no suspect, so its tile tells nothing
        PaneLight u = t.told("g2 1;p0 0 1;p1 0 2;");
        u.breaks(0, 0);
        t.due("the other one", u.look(), 8 * 7);
    }
}
