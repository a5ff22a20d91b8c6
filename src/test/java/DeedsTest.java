/** Promises 7 to 13: lays, takes, breaks, mends, moves, undo, now. */
public final class DeedsTest {
    private static final Check t = new Check();
    private static final String EIGHT = "s7;s6;s5;s3;s4;s2;s1;s0;";

    public static void main(String[] args) {
        lays();
        takes();
        breaks();
        mends();
        moves();
        undo();
        undoKnowsTen();
        now();
        leadsAndParts();
        t.end();
    }

    private static void lays() {
        PaneLight p = t.told("g2 2;p0 0 6;" + EIGHT);
        t.due("lays clear", p.lays(0, 0, 0), 6);
        t.due("lays 5", p.lays(2, 0, 0), 4);
        t.due("lays 3", p.lays(3, 0, 0), 0);
        t.due("a fourth", p.lays(4, 0, 0), Check.STATE);
        t.due("laid here already", p.lays(0, 0, 0), Check.STATE);
        t.due("laid elsewhere already", p.lays(0, 1, 1), Check.STATE);
        p.breaks(1, 0);
        t.due("before a broken pane", p.lays(4, 1, 0), Check.STATE);
        t.due("no such sheet, and a broken pane", p.lays(8, 1, 0), Check.BAD);
        t.due("no such pane, and a laid sheet", p.lays(0, 2, 0), Check.BAD);
        t.due("lays elsewhere", p.lays(4, 1, 1), 4);
        t.due("the box", p.now(3), 0b11100010);
        t.due("may be undone", p.count(4), 5);
    }

    private static void takes() {
        PaneLight p = t.told("p4 3 3;s1;s6;");
        p.lays(0, 4, 3);
        p.lays(1, 4, 3);
        t.due("through", p.pane(4, 3, 3), 0);
        t.due("takes", p.takes(0), 19);
        t.due("through", p.pane(4, 3, 3), 2);
        t.due("sheets", p.pane(4, 3, 2), 2);
        t.due("takes from the box", p.takes(0), Check.STATE);
        p.lays(0, 0, 0);
        t.due("takes from the first pane", p.takes(0), 0);
        t.due("takes the other", p.takes(1), 19);
        t.due("through", p.pane(4, 3, 3), 3);
        t.due("the box", p.now(3), 3);
        t.due("may be undone", p.count(4), 6);
    }

    private static void breaks() {
        PaneLight p = t.told("g3 3;p1 1 2;" + EIGHT);
        p.lays(0, 1, 1);
        p.lays(7, 1, 1);
        p.lays(5, 1, 1);
        p.lays(6, 2, 2);
        t.due("breaks", p.breaks(1, 1), 3);
        t.due("the box", p.now(3), 0b10111111);
        t.due("broken", p.now(2), 1 << 5);
        t.due("breaks one without sheets", p.breaks(0, 0), 0);
        t.due("broken", p.now(2), 1 << 5 | 1);
        t.due("breaks again", p.breaks(1, 1), Check.STATE);
        t.due("sheets elsewhere stay", p.sheet(6, 1), 10);
        t.due("may be undone", p.count(4), 6);
    }

    private static void mends() {
        PaneLight p = t.told("g3 3;p2 2 4;s1;");
        p.lays(0, 2, 2);
        t.due("mends a whole one", p.mends(2, 2), Check.STATE);
        p.breaks(2, 2);
        p.breaks(0, 0);
        t.due("mends", p.mends(2, 2), 4);
        t.due("its sheet stays in the box", p.sheet(0, 1), Check.NONE);
        t.due("through", p.pane(2, 2, 3), 4);
        t.due("the other stays broken", p.now(2), 1);
        t.due("mends again", p.mends(2, 2), Check.STATE);
        t.due("may be undone", p.count(4), 4);
    }

    private static void moves() {
        PaneLight p = t.told("g5 3;");
        t.due("both are so", p.moves(12, 0), Check.STATE);
        t.due("one is not", p.moves(12, 3), 0);
        t.due("the other is not", p.moves(1, 3), 9);
        t.due("mirror", p.now(0), 1);
        t.due("season", p.now(1), 3);
        t.due("moves", p.moves(2, 0), 3);
        t.due("moves", p.moves(3, 1), 0);
        t.due("both are so", p.moves(3, 1), Check.STATE);
        t.due("one is so, the other can't be", p.moves(3, 4), Check.BAD);
        t.due("one is so, the other can't be", p.moves(0, 1), Check.BAD);
        t.due("may be undone", p.count(4), 4);
        t.due("of a narrow window", t.told("g2 4;").moves(1, 0), 0);
        t.due("of a window of three", t.told("g3 4;").moves(1, 0), 4);
    }

    private static void undo() {
        for (int deeds = 1; deeds <= 6; deeds++) {
            PaneLight p = afterDeeds(deeds);
            t.due("undo", p.undo(), deeds - 1);
            t.due("all is as ahead of it", Check.seen(p).equals(Check.seen(afterDeeds(deeds - 1))) ? 1 : 0, 1);
        }
        PaneLight p = afterDeeds(6);
        for (int left = 5; left >= 0; left--) {
            t.due("undo", p.undo(), left);
        }
        t.due("all is as at first", Check.seen(p).equals(Check.seen(afterDeeds(0))) ? 1 : 0, 1);
        t.due("nothing to be undone", p.undo(), Check.STATE);
        p.saw(0, 0, 0, 7);
        p.breaks(1, 1);
        p.saw(1, 1, 0, 7);
        p.undo();
        t.due("what was seen stays", p.count(3), 2);
        p.moves(1, 1);
        p.moves(1, 1);
        t.due("a refused call is not to be undone", p.undo(), 0);
    }

    /** A window behind the first of six deeds, one of each kind at least. */
    private static PaneLight afterDeeds(int deeds) {
        PaneLight p = t.told("g2 2;p0 0 3;s1;s2;m5;y1;");
        Runnable[] all = {
            () -> p.lays(0, 0, 0), () -> p.lays(1, 0, 0), () -> p.takes(0),
            () -> p.breaks(0, 0), () -> p.mends(0, 0), () -> p.moves(2, 3),
        };
        for (int n = 0; n < deeds; n++) {
            all[n].run();
        }
        return p;
    }

    private static void undoKnowsTen() {
        PaneLight p = new PaneLight();
        for (int n = 1; n <= 12; n++) {
            p.breaks((n - 1) / 4, (n - 1) % 4);
            t.due("may be undone", p.count(4), Math.min(n, 10));
        }
        for (int n = 9; n >= 0; n--) {
            t.due("undo", p.undo(), n);
            t.due("broken", p.now(2), (1 << n + 2) - 1);
        }
        t.due("the first two are lost", p.undo(), Check.STATE);
        t.due("broken", p.now(2), 3);
        p.mends(0, 0);
        t.due("undo again", p.undo(), 0);
        t.due("broken", p.now(2), 3);
    }

    private static void now() {
        PaneLight p = t.told("g2 2;s1;s2;s3;m7;y2;");
        p.lays(1, 1, 0);
        p.breaks(0, 1);
        p.breaks(1, 1);
        int[] want = {7, 2, 1 << 1 | 1 << 5, 0b101, 0, 1, 4};
        for (int what = 0; what < want.length; what++) {
            t.due("now(" + what + ")", p.now(what), want[what]);
        }
    }

    private static void leadsAndParts() {
        leads(t.told("g1 1;p0 0 2;"), 0, 1, 1);
        leads(t.told("g1 4;p0 0 2;p0 3 2;"), 2, 3, 2);
        leads(t.told("g5 1;p0 0 2;p4 0 2;"), 2, 3, 3);
        // (0, 3) and (1, 0) have numbers side by side, but are not beside one another
        leads(t.told("p0 3 1;p1 0 1;"), 5, 3, 18);
        leads(t.told("g2 2;p0 0 1;p1 1 1;"), 4, 4, 1);
        // a way that winds through the window is one PART
        PaneLight p = t.told("p1 0 0;p1 1 0;p1 2 0;p3 1 0;p3 2 0;p3 3 0;");
        leads(p, 14, 3, 14);
        // a broken PANE is clear, its SHEETS and those of others don't matter
        PaneLight q = t.told("g3 1;p1 0 4;s2;");
        leads(q, 2, 3, 1);
        q.lays(0, 0, 0);
        leads(q, 2, 3, 1);
        q.breaks(1, 0);
        leads(q, 0, 1, 3);
        q.mends(1, 0);
        leads(q, 2, 3, 1);
        // arms that come together behind, ahead, below, above
        leads(t.told("g2 3;p0 1 1;"), 3, 2, 5);
        leads(t.told("g2 3;p1 1 1;"), 3, 2, 5);
        leads(t.told("g3 2;p1 0 1;"), 3, 2, 5);
        leads(t.told("g3 2;p1 1 1;"), 3, 2, 5);
        // every PANE unlike those beside it
        PaneLight r = new PaneLight();
        StringBuilder text = new StringBuilder();
        for (int x = 0; x < 5; x++) {
            for (int y = 0; y < 4; y++) {
                if ((x + y) % 2 == 0) {
                    text.append("p").append(x).append(" ").append(y).append(" 0;");
                }
            }
        }
        Check.type(r, text.toString());
        t.due("window", r.window(), 10);
        leads(r, 31, 20, 1);
    }

    private static void leads(PaneLight p, int leads, int parts, int greatest) {
        t.due("leads", p.now(4), leads);
        t.due("parts", p.now(5), parts);
        t.due("the greatest", p.now(6), greatest);
    }
}
