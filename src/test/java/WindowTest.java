/** Promises 1 to 6: a new object, type, clear, window, pane, sheet. */
public final class WindowTest {
    private static final Check t = new Check();

    public static void main(String[] args) {
        newObject();
        type();
        clear();
        windowTells();
        windowForgets();
        windowLeavesNothing();
        faults();
        faultsChangeNothing();
        pane();
        sheet();
        t.end();
    }

    private static void newObject() {
        PaneLight p = new PaneLight();
        int[] counts = {5, 4, 0, 0, 0, 0};
        for (int what = 0; what < counts.length; what++) {
            t.due("count(" + what + ") at first", p.count(what), counts[what]);
        }
        int[] nows = {12, 0, 0, 0, 0, 1, 20};
        for (int what = 0; what < nows.length; what++) {
            t.due("now(" + what + ") at first", p.now(what), nows[what]);
        }
        for (int x = 0; x < 5; x++) {
            for (int y = 0; y < 4; y++) {
                t.due("glass at first", p.pane(x, y, 0), 7);
            }
        }
        t.due("trace at first", p.trace(), 0);
        t.due("undo at first", p.undo(), Check.STATE);
        t.due("back at first", p.back(0), Check.STATE);
        t.due("back at first", p.back(1), Check.STATE);
        t.due("suspects at first", p.suspects(), (1 << 21) - 1);
    }

    private static void type() {
        PaneLight p = new PaneLight();
        t.due("type(0)", p.type(0), 1);
        t.due("type(255)", p.type(255), 2);
        for (int n = 3; n <= 170; n++) {
            t.due("type", p.type(' '), n);
        }
        t.due("type on a full text", p.type(' '), Check.FULL);
        t.due("type(256) on a full text", p.type(256), Check.BAD);
        t.due("count(5)", p.count(5), 170);
    }

    private static void clear() {
        PaneLight p = new PaneLight();
        t.due("clear of an empty text", p.clear(), 0);
        Check.type(p, "x!");
        t.due("clear", p.clear(), 2);
        t.due("count(5)", p.count(5), 0);
        t.due("clear again", p.clear(), 0);
        Check.type(p, "s3;");
        t.due("window of what came behind clear", p.window(), 1);
        t.due("sheet", p.sheet(0, 0), 3);
    }

    private static void windowTells() {
        PaneLight p = t.told("g2 3;p0 1 4;p1 2 0;p0 1 5;s6;s1;m12;y3;");
        t.due("wide", p.count(0), 2);
        t.due("high", p.count(1), 3);
        t.due("sheets", p.count(2), 2);
        t.due("text is empty", p.count(5), 0);
        t.due("the later glass", p.pane(0, 1, 0), 5);
        t.due("glass", p.pane(1, 2, 0), 0);
        t.due("glass that is not told", p.pane(1, 1, 0), 7);
        t.due("mirror", p.now(0), 12);
        t.due("season", p.now(1), 3);
        items("", 0);
        items("   ", 0);
        items("g5 4;", 1);
        items("g1 1;", 1);
        items("  g 5  4 ; p 4 3 0 ; ", 2);
        items("y0;m1;", 2);
        items("m12;y3;s0;s7;", 4);
        items("s0;s0;s0;s0;s0;s0;s0;s0;", 8);
        items("p0 0 1;p0 0 2;p0 0 3;", 3);
        PaneLight full = new PaneLight();
        for (int i = 0; i < 24; i++) {
            Check.type(full, "p0 0 " + i % 8 + ";");
        }
        Check.type(full, "  ");
        t.due("bytes", full.count(5), 170);
        t.due("window of a full text", full.window(), 24);
        t.due("the latest glass", full.pane(0, 0, 0), 7);
    }

    private static void windowForgets() {
        PaneLight p = t.told("g3 3;p0 0 1;s2;s4;m4;y1;");
        p.lays(0, 0, 0);
        p.breaks(1, 1);
        p.moves(5, 2);
        p.saw(0, 0, 0, 7);
        p.mark(1, 0, 0);
        p.keep(0);
        p.keep(1);
        t.due("window of an empty text", p.window(), 0);
        int[] counts = {5, 4, 0, 0, 0, 0};
        for (int what = 0; what < counts.length; what++) {
            t.due("count(" + what + ") read anew", p.count(what), counts[what]);
        }
        int[] nows = {12, 0, 0, 0, 0, 1, 20};
        for (int what = 0; what < nows.length; what++) {
            t.due("now(" + what + ") read anew", p.now(what), nows[what]);
        }
        t.due("glass read anew", p.pane(0, 0, 0), 7);
        t.due("undo read anew", p.undo(), Check.STATE);
        t.due("back(0) read anew", p.back(0), Check.STATE);
        t.due("back(1) read anew", p.back(1), Check.STATE);
        t.due("suspects read anew", p.suspects(), (1 << 21) - 1);
        t.due("trace stays", p.trace(), 11);
        p.breaks(0, 0);
        t.due("mirror behind a deed", p.now(0), 12);
        t.due("undone", p.undo(), 0);
        t.due("mirror then", p.now(0), 12);
    }

    /** Nothing is left of any text that was read, or refused, or cleared earlier. */
    private static void windowLeavesNothing() {
        PaneLight p = t.told("g2 3;p0 0 1;s2;s4;m4;y1;");
        for (int n = 0; n < 11; n++) {
            p.breaks(1, 1);
            p.lays(0, 0, 0);
            p.mends(1, 1);
            p.takes(0);
        }
        p.breaks(1, 1);
        p.lays(0, 0, 0);
        for (int n = 0; n < 5; n++) {
            p.moves(7, 2);
            p.moves(8, 2);
        }
        java.util.List<Long> fresh = Check.seen(new PaneLight());
        for (int n = 0; n < 3; n++) {
            t.due("an empty text", p.window(), 0);
            t.due("all as at first", Check.seen(p).equals(fresh) ? 1 : 0, 1);
        }
        Check.type(p, "g3 3;p1 1 2;s1;s1;m2;y2;!");
        t.due("refused", p.window(), -10 - 24);
        p.clear();
        t.due("an empty text", p.window(), 0);
        t.due("all as at first", Check.seen(p).equals(fresh) ? 1 : 0, 1);
        String[] longer = {"s12", "s1;ss", "g1 1;  "};
        for (String text : longer) {
            Check.type(p, text);
            p.clear();
            Check.type(p, text.substring(0, text.length() - 1));
            int ends = text.charAt(0) == 'g' ? 1 : -10 - (text.length() - 1);
            t.due("window of '" + text + "' less its last", p.window(), ends);
            p.clear();
        }
    }

    private static void faults() {
        // no ITEM begins so
        fault("x", 0);
        fault("gg1 1;", 0);
        fault("pg", 0);
        fault("gz", 0);
        fault("ga", 0);
        fault("a", 0);
        fault("z", 0);
        fault(" 1", 1);
        fault(";", 0);
        fault("s1;;", 3);
        fault("s1;7", 3);
        fault("s1; ms2;", 4);
        // bytes that begin no TOKEN
        fault("A", 0);
        fault("s1;\t", 3);
        fault("s1,", 2);
        fault("s-1;", 1);
        fault("s1;" + (char) 255, 3);
        fault("s" + (char) 0, 1);
        fault("`", 0);
        fault("{", 0);
        fault("s/", 1);
        fault("s:", 1);
        // g behind another ITEM, itself too
        fault("s1;g1 1;", 3);
        fault("g1 1;g1 1;", 5);
        // m, y again
        fault("m1;y1;m1;", 6);
        fault("y1;m1; y1;", 7);
        // a ninth SHEET
        fault("s0;s0;s0;s0;s0;s0;s0;s0;s0;", 24);
        // a NUMBER beyond what it may be
        fault("g0 1;", 1);
        fault("g6 1;", 1);
        fault("g1 0;", 3);
        fault("g1 5;", 3);
        fault("p5 0 0;", 1);
        fault("p0 4 0;", 3);
        fault("p0 0 8;", 5);
        fault("g2 3;p2 0 0;", 6);
        fault("g2 3;p0 3 0;", 8);
        fault("s8;", 1);
        fault("m0;", 1);
        fault("m13;", 1);
        fault("y4;", 1);
        // NUMBERS that are none
        fault("m 100;", 2);
        fault("m 00;", 2);
        fault("m 01;", 2);
        fault("m 4294967297;", 2);
        fault("m 12345678901234567890;", 2);
        fault("s1 001", 3);
        // another TOKEN is due
        fault("g;", 1);
        fault("g1;", 2);
        fault("g1 1 1;", 5);
        fault("g 1 1 s", 6);
        fault("p0 a 0;", 3);
        fault("p0 0;", 4);
        fault("p0 0 0 0;", 7);
        fault("s;", 1);
        fault("s1 1;", 3);
        fault("m1s2;", 2);
        fault("y y", 2);
        // it ends too early
        fault("g", 1);
        fault("g1", 2);
        fault("g1 1", 4);
        fault("g1 1   ", 7);
        fault("p", 1);
        fault("p0 ", 3);
        fault("p0 0 0", 6);
        fault("s", 1);
        fault("s1", 2);
        fault("m", 1);
        fault("y0", 2);
        fault("s1; y ", 6);
    }

    private static void faultsChangeNothing() {
        PaneLight p = t.told("g2 2;p0 0 3;s5;m3;y2;");
        p.lays(0, 0, 0);
        p.breaks(1, 1);
        p.saw(0, 0, 0, 0);
        p.keep(1);
        Check.type(p, "g4 4;p0 0 1;s1;s2;m1;y1;?");
        t.due("window with a fault", p.window(), -10 - 24);
        t.due("text stays", p.count(5), 25);
        t.due("undo", p.undo(), 1);
        t.due("back", p.back(1), 1);
        t.due("may be undone again", p.count(4), 2);
    }

    private static void pane() {
        PaneLight p = t.told("g3 2;p1 1 6;s3;s5;");
        p.lays(0, 1, 1);
        t.due("glass", p.pane(1, 1, 0), 6);
        t.due("broken", p.pane(1, 1, 1), 0);
        t.due("sheets", p.pane(1, 1, 2), 1);
        t.due("through", p.pane(1, 1, 3), 2);
        p.lays(1, 1, 1);
        t.due("sheets", p.pane(1, 1, 2), 3);
        t.due("through", p.pane(1, 1, 3), 0);
        p.breaks(1, 1);
        t.due("glass of a broken pane", p.pane(1, 1, 0), 6);
        t.due("broken", p.pane(1, 1, 1), 1);
        t.due("sheets", p.pane(1, 1, 2), 0);
        t.due("through", p.pane(1, 1, 3), 7);
        t.due("the last pane", p.pane(2, 1, 3), 7);
    }

    private static void sheet() {
        PaneLight p = t.told("s0;s1;s2;s3;s4;s5;s6;s7;");
        for (int s = 0; s < 8; s++) {
            t.due("colour", p.sheet(s, 0), s);
            t.due("in the box", p.sheet(s, 1), Check.NONE);
        }
        p.lays(7, 4, 3);
        p.lays(0, 0, 0);
        t.due("before the last pane", p.sheet(7, 1), 19);
        t.due("before the first pane", p.sheet(0, 1), 0);
        t.due("before none", p.sheet(1, 1), Check.NONE);
        p.breaks(4, 3);
        t.due("in the box again", p.sheet(7, 1), Check.NONE);
        t.due("no sheets at first", new PaneLight().sheet(0, 0), Check.BAD);
        t.due("a sheet less", t.told("s1;").sheet(1, 0), Check.BAD);
    }

    private static void items(String text, int want) {
        PaneLight p = new PaneLight();
        Check.type(p, text);
        t.due("window of '" + text + "'", p.window(), want);
        t.due("text then", p.count(5), 0);
    }

    private static void fault(String text, int place) {
        PaneLight p = new PaneLight();
        Check.type(p, text);
        t.due("window of '" + text + "'", p.window(), -10 - place);
    }
}
