/** Boundary cases of a new object and of what the window has: promises 1, 5 (pane), 6 (sheet). */
final class WindowEdges {
    private final Edge e;

    WindowEdges(Edge e) {
        this.e = e;
    }

    void all() {
        newObject();
        lastCalls();
        pane();
        paneNumbers();
        sheet();
    }

    private void newObject() {
        e.says(1, "As told at first.");
        e.run("count 0 = 5", "count 1 = 4", "count 2 = 0", "count 3 = 0", "count 4 = 0", "count 5 = 0");
        e.run("now 0 = 12", "now 1 = 0", "now 2 = 0", "now 3 = 0", "now 4 = 0", "now 5 = 1", "now 6 = 20");
        e.run("undo = STATE", "back 0 = STATE", "back 1 = STATE", "trace = 0", "forget = 0", "clear = 0", "sheet 0 0 = BAD",
            "lays 0 0 0 = BAD", "takes 0 = BAD", "suspects = 2097151", "look = 0", "moves 12 0 = STATE", "mends 0 0 = STATE");
        e.says(1, "GLASS of each PANE (7 at first)");
        for (int n = 0; n < 20; n++) {
            String at = n / 4 + " " + n % 4;
            e.run("pane " + at + " 0 = 7", "pane " + at + " 1 = 0", "pane " + at + " 2 = 0", "pane " + at + " 3 = 7");
        }
        e.run("pane 5 0 0 = BAD", "pane 0 4 0 = BAD");
        e.says(1, "No PANE is BROKEN, all SHEETS are in the BOX at first.");
        e.run("told s1;s1;s1;s1;s1;s1;s1;s1;", "now 2 = 0", "now 3 = 255", "sheet 0 1 = NONE", "sheet 7 1 = NONE");
        // one object has nothing of another
        e.run(Edge.with(TextEdges.RICH, "count 3 = 2"));
        e.run("count 5 = 0", "count 4 = 0", "count 3 = 0", "count 2 = 0", "pane 0 0 0 = 7", "trace = 0");
    }

    private void lastCalls() {
        e.says(1, "An object is used for at most 512 calls after it has been made");
        String[] rows = new String[512];
        java.util.Arrays.fill(rows, "mark 5 4 3");
        rows[511] = "trace = 51100511";
        e.manyCalls(rows);
        for (int i = 0; i < 511; i++) {
            rows[i] = i % 2 == 0 ? "breaks 4 3" : "mends 4 3";
        }
        rows[511] = "undo = 9";
        e.manyCalls(rows);
    }

    private void pane() {
        e.says(5, "Of a PANE: 0 GLASS, 1 whether it is BROKEN (1, 0), 2 SHEETS before it (bits), 3 what it lets through. BAD.");
        e.bounds("pane 0..4 0..3 0..3");
        e.bounds("pane 0..4 0..3 0..3", TextEdges.RICH);
        e.bounds("pane 0..0 0..0 0..3", "told g1 1;");
        e.bounds("pane 0..1 0..2 0..3", "told g2 3;");
        e.bounds("pane 0..4 0..0 0..3", "told g5 1;");
        e.run("pane -1 4 0 = BAD", "pane 1 -4 0 = BAD", "pane 5 -1 0 = BAD");
        e.run("told g1 1;p0 0 0;", "pane 0 0 0 = 0", "pane 0 0 1 = 0", "pane 0 0 3 = 0", "breaks 0 0 = 0", "pane 0 0 0 = 0",
            "pane 0 0 1 = 1", "pane 0 0 3 = 7", "mends 0 0 = 0", "pane 0 0 1 = 0", "pane 0 0 3 = 0");
        e.says(5, "A PANE lets through what its GLASS (7, if it is BROKEN) and all SHEETS before it let through, each (and).");
        e.run("told g1 1;p0 0 7;s7;s6;s5;s3;s0;s7;s7;s3;", "pane 0 0 2 = 0", "pane 0 0 3 = 7", "lays 0 0 0 = 7", "pane 0 0 2 = 1",
            "lays 7 0 0 = 3", "pane 0 0 2 = 129", "lays 2 0 0 = 1", "pane 0 0 2 = 133", "pane 0 0 3 = 1", "pane 0 0 0 = 7",
            "breaks 0 0 = 3", "pane 0 0 2 = 0", "pane 0 0 3 = 7");
        e.run("told g1 1;p0 0 5;s4;s0;s5;", "lays 0 0 0 = 4", "lays 1 0 0 = 0", "lays 2 0 0 = 0", "takes 1 = 0", "pane 0 0 3 = 4",
            "takes 0 = 0", "pane 0 0 3 = 5");
    }

    private void paneNumbers() {
        e.says(6, "as a number 4 x and y together");
        for (int wide = 1; wide <= 5; wide++) {
            for (int high = 1; high <= 4; high++) {
                int x = wide - 1;
                int y = high - 1;
                e.run("told g" + wide + " " + high + ";s1;", "lays 0 " + x + " " + y + " = 1", "sheet 0 1 = " + (4 * x + y),
                    "takes 0 = " + (4 * x + y), "breaks " + x + " " + y + " = 0", "now 2 = " + (1 << 4 * x + y));
            }
        }
    }

    private void sheet() {
        e.says(6, "Of a SHEET: 0 COLOUR, 1 before which PANE it is (its number; NONE: in the BOX). BAD.");
        e.bounds("sheet 0..7 0..1", "told s1;s1;s1;s1;s1;s1;s1;s1;");
        e.bounds("sheet 0..3 0..1", TextEdges.RICH);
        e.bounds("sheet 0..0 0..1", "told s0;");
        e.run("sheet 0 0 = BAD", "sheet 0 1 = BAD", "sheet -1 1 = BAD");
        e.run("told s0;s7;", "sheet 0 0 = 0", "sheet 1 0 = 7", "sheet 0 1 = NONE", "lays 0 0 0 = 0", "sheet 0 1 = 0",
            "lays 1 4 3 = 7", "sheet 1 1 = 19", "takes 0 = 0", "sheet 0 1 = NONE", "breaks 4 3 = 1", "sheet 1 1 = NONE",
            "undo = 3", "sheet 1 1 = 19");
        // a SHEET of an earlier text is none
        e.run("told s1;s1;", "told s1;", "sheet 1 0 = BAD", "sheet 1 1 = BAD");
    }
}
