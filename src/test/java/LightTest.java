/** Promises 14 to 20: light, lit, when, mix, child, paint, hail. */
public final class LightTest {
    private static final Check t = new Check();

    public static void main(String[] args) {
        light();
        lightByMirror();
        lit();
        when();
        mix();
        mixCounts();
        child();
        paint();
        hail();
        t.end();
    }

    private static void light() {
        PaneLight p = t.told("g5 4;p0 0 1;p4 3 4;p2 1 0;s3;");
        t.due("(0, 0) at 0", p.light(0, 0, 0), 1);
        t.due("(0, 0) at 7", p.light(7, 0, 7), 1);
        t.due("(4, 3) at 7", p.light(11, 3, 7), 4);
        t.due("dark glass", p.light(2, 1, 0), 0);
        t.due("nothing falls there", p.light(5, 0, 0), 0);
        t.due("nothing falls there", p.light(0, 4, 0), 0);
        t.due("nothing falls there", p.light(6, 0, 7), 0);
        p.lays(0, 1, 0);
        t.due("with a sheet", p.light(1, 0, 0), 3);
        p.breaks(0, 0);
        t.due("broken", p.light(0, 0, 0), 7);
        p.moves(12, 3);
        t.due("a season later", p.light(4, 6, 0), 4);
        t.due("a season later", p.light(4, 3, 0), 7);
        t.due("a season later", p.light(0, 2, 0), 0);
    }

    private static void lightByMirror() {
        // columns 0 .. 4 at HOUR 3 are 3 .. 7: from 5 on they come back to 4, 3, 2
        PaneLight p = t.told("g5 1;p0 0 1;p1 0 2;p2 0 4;p3 0 2;p4 0 1;m5;");
        int[] want = {0, 0, 1, 3, 6, 0, 0, 0, 0, 0, 0, 0};
        for (int x = 0; x < 12; x++) {
            t.due("light(" + x + ", 0, 3)", p.light(x, 0, 3), want[x]);
        }
        // MIRROR 1: column 1 comes back to 0, the others are lost
        PaneLight q = t.told("g5 1;p0 0 1;p1 0 2;p2 0 4;m1;");
        t.due("both", q.light(0, 0, 0), 3);
        t.due("the first comes back", q.light(0, 0, 1), 1);
        t.due("lost", q.light(0, 0, 2), 0);
        t.due("behind the mirror", q.light(1, 0, 0), 0);
        t.due("behind the mirror", q.light(2, 0, 0), 0);
        // by the MIRROR in another SEASON
        PaneLight s = t.told("g2 2;p1 0 2;p1 1 4;m1;y3;");
        t.due("row 3", s.light(0, 3, 0), 7);
        s.moves(2, 3);
        t.due("row 3", s.light(0, 3, 2), 2);
        t.due("row 4", s.light(0, 4, 2), 4);
        t.due("row 0", s.light(0, 0, 2), 0);
        // 12 is none, 11 is one
        PaneLight r = t.told("g5 1;p4 0 2;m11;");
        t.due("back from 11", r.light(10, 0, 7), 7);
        t.due("none at 11", r.light(11, 0, 7), 0);
        r.breaks(4, 0);
        r.moves(12, 0);
        t.due("no mirror", r.light(11, 0, 7), 7);
    }

    private static void lit() {
        PaneLight p = t.told("g2 2;p0 1 3;p1 1 3;p1 0 1;");
        t.due("clear", p.lit(7, 0, 0), 1);
        t.due("3", p.lit(3, 0, 0), 2);
        t.due("just 1", p.lit(1, 0, 0), 1);
        t.due("dark", p.lit(0, 0, 0), 80);
        t.due("2", p.lit(2, 0, 0), 0);
        t.due("first 3", p.lit(3, 0, 1), 1);
        t.due("first 3 at the last hour", p.lit(3, 7, 1), 50);
        t.due("first 1", p.lit(1, 0, 1), 7);
        t.due("first dark", p.lit(0, 0, 1), 2);
        t.due("first 2", p.lit(2, 0, 1), Check.NONE);
        t.due("the last tile", t.told("y3;").lit(7, 7, 1), 52);
    }

    private static void when() {
        PaneLight p = t.told("g3 1;p0 0 1;p2 0 1;");
        t.due("first 1", p.when(2, 0, 1), 0);
        t.due("first 7", p.when(2, 0, 7), 1);
        t.due("first dark", p.when(2, 0, 0), 3);
        t.due("never 3", p.when(2, 0, 3), Check.NONE);
        t.due("at the last hour", p.when(7, 0, 1), 5);
        t.due("at the last hour alone", t.told("g1 1;").when(7, 0, 7), 7);
        t.due("behind the last hour", t.told("g1 1;").when(8, 0, 7), Check.NONE);
        t.due("never", p.when(11, 6, 7), Check.NONE);
        t.due("dark at once", p.when(11, 6, 0), 0);
    }

    private static void mix() {
        // one PANE, clear; 3 by 7 & 3, not by 1 and 2 (both would be 0)
        PaneLight p = t.told("g1 1;s5;s6;s3;s3;");
        mixed(p, 0, 7, 0, 0, 0);
        mixed(p, 0, 3, 1, 0b100, 0);
        mixed(p, 0, 4, 2, 0b11, 0);
        mixed(p, 0, 1, 2, 0b101, 0);
        mixed(p, 0, 0, 3, 0b111, 0);
        p.lays(2, 0, 0);
        mixed(p, 0, 3, 0, 0, 0);
        mixed(p, 0, 1, 1, 0b1, 0);
        mixed(p, 0, 0, 2, 0b11, 0);
        mixed(p, 0, 7, Check.NONE, 0, 0);
        p.lays(3, 0, 0);
        // one more alone may be laid
        mixed(p, 0, 0, Check.NONE, 0, 0);
        mixed(p, 0, 2, 1, 0b10, 0);
        p.lays(0, 0, 0);
        mixed(p, 0, 1, 0, 0, 0);
        mixed(p, 0, 0, Check.NONE, 0, 0);
        p.breaks(0, 0);
        mixed(p, 0, 7, 0, 0, 0);
        mixed(p, 0, 3, Check.NONE, 0, 0);
        // nothing falls there
        mixed(p, 1, 0, 0, 0, 0);
        mixed(p, 1, 1, Check.NONE, 0, 0);
        t.due("nothing was laid", p.now(3), 15);
        // all of the BOX before the one, before the other (at HOUR 1, PANE 0 comes to column 0 by a MIRROR at 1)
        PaneLight q = t.told("g1 1;m1;s5;s6;s3;");
        mixed(q, 0, 0, 3, 0b111, 0);
        mixedAt(q, 0, 1, 0, 3, 0, 0b111);
    }

    private static void mixCounts() {
        // at HOUR 1, column 1 has PANE 0 by itself, PANE 1 by the MIRROR at 2
        PaneLight p = t.told("g2 1;m2;s1;s2;s4;s1;s2;");
        t.due("which one", p.mix(1, 0, 1, 7, 0), 0);
        pairOf(p, 1, 2, 0b1, 0b1000);
        pairOf(p, 3, 2, 0b1, 0b10);
        pairOf(p, 5, 2, 0b1, 0b100);
        pairOf(p, 0, 4, 0b11, 0b1100);
        p.breaks(0, 0);
        pairOf(p, 7, 0, 0, 0);
        pairOf(p, 6, Check.NONE, 0, 0);
        p.undo();
        p.breaks(1, 0);
        pairOf(p, 7, 0, 0, 0);
        pairOf(p, 1, Check.NONE, 0, 0);
        p.undo();
        p.lays(0, 1, 0);
        pairOf(p, 1, 1, 0b1000, 0);
        pairOf(p, 3, 1, 0b10, 0);
        p.lays(1, 1, 0);
        pairOf(p, 4, 1, 0b100, 0);
        // by the MIRROR alone: PANE 1 at HOUR 2 falls on 3, comes back to 0
        t.due("by the mirror alone", p.mix(0, 0, 2, 0, 0), 0);
        p.undo();
        t.due("by the mirror alone", p.mix(0, 0, 2, 0, 0), 1);
        t.due("none by itself", p.mix(0, 0, 2, 0, 1), 0);
        t.due("before the other", p.mix(0, 0, 2, 0, 2), 0b10);
        // of as few, the least bits before the former, though the latter's are greater then
        PaneLight q = t.told("g2 1;p0 0 3;p1 0 3;m2;s1;s2;s0;s0;");
        pairOf(q, 3, 0, 0, 0);
        pairOf(q, 1, 2, 0b1, 0b100);
        pairOf(q, 2, 2, 0b10, 0b100);
        pairOf(q, 0, 2, 0b100, 0b1000);
        t.due("nothing was done", q.count(4), 0);
    }

    private static void child() {
        // one PANE that wanders on: the child goes with it
        PaneLight p = t.told("g1 1;p0 0 5;y2;");
        way(p, 0, 2, 0, 5, 2, 9, 16, 23, 30, 37, 44, 51);
        way(p, 0, 2, 0, 1, 2, 9, 16, 23, 30, 37, 44, 51);
        way(p, 0, 2, 0, 2);
        way(p, 0, 2, 1, 5);
        way(p, 7, 2, 7, 4, 51);
        way(p, 6, 2, 6, 4, 44, 51);
        // the lowest of like ways: stays in column 0 as long as it is lit there
        PaneLight q = t.told("g1 4;m1;");
        way(q, 0, 3, 0, 7, 3, 2);
        way(q, 0, 0, 0, 7, 0, 0);
        way(q, 0, 0, 1, 7, 0);
        // a longer way goes ahead of a lower one
        PaneLight r = t.told("g2 2;p0 0 0;p1 0 1;p0 1 1;p1 1 1;");
        way(r, 1, 1, 6, 1);
        way(r, 6, 1, 6, 1, 43, 50);
        way(r, 7, 1, 6, 1, 50, 50);
        way(r, 7, 0, 6, 1, 49, 50);
        // back with the light that a MIRROR throws back
        way(t.told("g1 1;m4;"), 0, 0, 0, 7, 0, 7, 14, 21, 21, 14, 7, 0);
        // to the first row, to the last row, as their tiles are lower than those of the other PANE
        way(t.told("g2 2;p0 1 0;p1 0 0;"), 1, 1, 0, 7, 8, 7, 14, 21, 28, 35, 42, 49);
        way(t.told("g2 4;y3;p0 0 0;p0 1 0;p0 2 0;p1 0 0;p1 1 0;p1 3 0;"), 1, 5, 0, 7, 12, 13, 20, 27, 34, 41, 48, 55);
        // not over the edge of a column: tiles 6 and 7 are not beside one another
        PaneLight s = t.told("g2 4;y3;p0 0 0;p0 1 0;p0 2 0;p1 0 0;p1 1 0;p1 2 0;p1 3 0;");
        way(s, 0, 6, 0, 7, 6, 13, 20, 27, 34, 41, 48, 55);
        // to the last column, and not beyond it
        PaneLight u = t.told("g5 1;p0 0 0;p1 0 0;p2 0 0;p3 0 0;");
        way(u, 4, 0, 0, 7, 28, 35, 42, 49, 56, 63, 70, 77);
    }

    private static void paint() {
        painted(new PaneLight(), 0, 0, 2);
        painted(t.told("g1 1;p0 0 0;"), 0, 1, 0);
        painted(t.told("g1 2;p0 0 3;p0 1 3;"), 0, 0, 1);
        painted(t.told("g1 2;p0 0 3;p0 1 5;"), 0, 5, 0);
        // the PANE in the middle
        painted(t.told("g3 3;p1 1 2;"), 5, 7, 0);
        // the last PANE, to the colour of both beside it
        painted(t.told("p4 3 0;"), 19, 7, 0);
        // of like ones the lowest PANE, then COLOUR
        painted(t.told("g3 1;p0 0 1;p1 0 2;p2 0 3;"), 0, 2, 1);
        PaneLight p = t.told("g3 1;p1 0 2;s1;");
        p.lays(0, 0, 0);
        painted(p, 4, 7, 0);
        p.breaks(1, 0);
        painted(p, 0, 0, 1);
        // a broken PANE is clear NOW, and may be painted, too
        PaneLight q = t.told("g3 1;p0 0 2;p1 0 3;p2 0 2;");
        q.breaks(1, 0);
        painted(q, 4, 2, 0);
        t.due("nothing is changed", q.pane(1, 0, 0), 3);
    }

    private static void hail() {
        // at HOUR 1, column 1 has PANE 0 by itself, PANE 1 by the MIRROR at 2
        PaneLight p = t.told("g2 1;p0 0 1;p1 0 2;m2;s4;s3;");
        odds(p, 1, 1, 0, 0, 1);
        odds(p, 1, 1, 1, 19, 100);
        odds(p, 1, 1, 2, 9, 25);
        odds(p, 1, 1, 5, 3, 4);
        odds(p, 1, 1, 9, 99, 100);
        odds(p, 1, 1, 10, 1, 1);
        // one PANE alone, by itself and by the MIRROR
        odds(p, 0, 0, 3, 3, 10);
        odds(p, 0, 0, 4, 2, 5);
        odds(p, 0, 0, 5, 1, 2);
        odds(p, 0, 0, 10, 1, 1);
        odds(p, 0, 2, 5, 1, 2);
        odds(p, 0, 2, 0, 0, 1);
        // nothing falls there
        odds(p, 5, 0, 10, 0, 1);
        p.breaks(1, 0);
        odds(p, 1, 1, 0, 1, 1);
        odds(p, 1, 1, 5, 1, 1);
        odds(p, 0, 2, 5, 1, 1);
        // 7 by both together, as it is; by a SHEET no more
        PaneLight q = t.told("g2 1;p0 0 1;p1 0 6;m2;s4;");
        odds(q, 1, 1, 0, 1, 1);
        odds(q, 1, 1, 3, 1, 1);
        q.lays(0, 1, 0);
        odds(q, 1, 1, 0, 0, 1);
        odds(q, 1, 1, 3, 51, 100);
    }

    /** MIX of tile (x, 0) at HOUR 0. */
    private static void mixed(PaneLight p, int x, int colour, int many, int former, int latter) {
        mixedAt(p, x, 0, colour, many, former, latter);
    }

    /** MIX of tile (1, 0) at HOUR 1. */
    private static void pairOf(PaneLight p, int colour, int many, int former, int latter) {
        mixedAt(p, 1, 1, colour, many, former, latter);
    }

    private static void mixedAt(PaneLight p, int x, int h, int colour, int many, int former, int latter) {
        String call = "mix(" + x + ", 0, " + h + ", " + colour + ", ";
        t.due(call + "0)", p.mix(x, 0, h, colour, 0), many);
        t.due(call + "1)", p.mix(x, 0, h, colour, 1), many == Check.NONE ? many : former);
        t.due(call + "2)", p.mix(x, 0, h, colour, 2), many == Check.NONE ? many : latter);
    }

    private static void way(PaneLight p, int x, int y, int h, int colour, int... tiles) {
        String call = "child(" + x + ", " + y + ", " + h + ", " + colour + ", ";
        t.due(call + "-1)", p.child(x, y, h, colour, -1), tiles.length);
        for (int k = 0; k < 8; k++) {
            t.due(call + k + ")", p.child(x, y, h, colour, k), k < tiles.length ? tiles[k] : Check.NONE);
        }
    }

    private static void painted(PaneLight p, int pane, int colour, int leads) {
        t.due("paint(0)", p.paint(0), 8 * pane + colour);
        t.due("paint(1)", p.paint(1), leads);
    }

    private static void odds(PaneLight p, int x, int h, int odd, int upper, int lower) {
        String call = "hail(" + x + ", 0, " + h + ", " + odd + ", ";
        t.due(call + "0)", p.hail(x, 0, h, odd, 0), upper);
        t.due(call + "1)", p.hail(x, 0, h, odd, 1), lower);
    }
}
