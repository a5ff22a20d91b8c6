/** Boundary cases of kinds and images: promises 26 (mark) to 30 (trace). */
final class KindsEdges {
    private final Edge e;

    KindsEdges(Edge e) {
        this.e = e;
    }

    void all() {
        mark();
        keep();
        back();
        backIsRefused();
        imagesKeepNothingElse();
        count();
        trace();
    }

    private void mark() {
        e.says(26, "MARK. NO: BAD.");
        e.bounds("mark 0..5 0..4 0..3");
        e.bounds("mark 0..5 0..4 0..3", TextEdges.RICH);
        e.bounds("mark 0..5 0..0 0..0", "told g1 1;");
        e.bounds("mark 0..5 0..1 0..2", "told g2 3;");
        e.run("mark 0 -1 4 = NO", "mark 0 1 -4 = NO", "mark 6 5 4 = NO", "mark -1 -1 -1 = NO", "trace = 0");
        e.says(26, "`NO = -1000000`: What none is, where a number may be below 0.");
        // answers that are as BAD, STATE and FULL are elsewhere
        e.run("told p0 0 0;p0 1 0;p0 2 0;p0 3 0;", "mark 2 0 0 = 0", "mark 2 0 1 = -1", "mark 2 0 2 = -2", "mark 2 0 3 = -3", "trace = 404");
        e.says(26, "PANE what it lets through (1). SAINT up, and how many SHEETS are before it (10). DEVIL up less its row (100). HALO up times 2 (1000). TAIL up, and its number (10000). LEAD up, and MIRROR (100000).");
        e.run("told p0 0 0;m1;", "mark 0 0 0 = 0", "mark 1 0 0 = 0", "mark 2 0 0 = 0", "mark 3 0 0 = 0", "mark 4 0 0 = 0", "mark 5 0 0 = 1");
        e.run("told s7;s7;s7;", "lays 0 4 3", "lays 1 4 3", "lays 2 4 3", "mark 0 4 3 = 7", "mark 1 4 3 = 10", "mark 2 4 3 = 4", "mark 3 4 3 = 20",
            "mark 4 4 3 = 23", "mark 5 4 3 = 19", "breaks 4 3", "mark 1 4 3 = 7", "mark 3 4 3 = 14");
        e.run("told g1 4;p0 3 0;", "mark 4 0 3 = 0", "mark 2 0 3 = -3", "breaks 0 3", "mark 2 0 3 = 4");
    }

    private void keep() {
        e.says(27, "An IMAGE is kept: how many PANES are BROKEN. BAD.");
        e.bounds("keep 0..1");
        e.bounds("keep 0..1", TextEdges.RICH);
        e.run("keep 0 = 0", "keep 1 = 0", "breaks 0 0", "keep 0 = 1", "keep 2 = BAD", "keep -1 = BAD");
        String[] broken = new String[20];
        for (int n = 0; n < 20; n++) {
            broken[n] = "breaks " + n / 4 + " " + n % 4;
        }
        e.run(Edge.with(broken, "keep 1 = 20", "mends 4 3 = 7", "keep 0 = 19", "back 1 = 20", "now 2 = 1048575", "back 0 = 19", "now 2 = 524287"));
        // kept again: the later
        e.run("breaks 0 0", "keep 0 = 1", "breaks 1 1", "keep 0 = 2", "undo = 1", "undo = 0", "back 0 = 2", "count 4 = 2");
    }

    private void back() {
        e.says(28, "All of that becomes as an IMAGE has it: how many PANES are BROKEN. BAD; STATE: none was kept.");
        e.run("keep 0 = 0", "breaks 0 0", "back 0 = 0", "now 2 = 0", "undo = STATE", "breaks 1 1", "back 0 = 0", "back 0 = 0", "now 2 = 0");
        e.run("breaks 0 0", "keep 0 = 1", "keep 1 = 1", "mends 0 0", "back 1 = 1", "undo = 0", "now 2 = 0", "back 0 = 1", "undo = 0", "undo = STATE");
        e.says(28, "IMAGES 0, 1 keep NOW (what is BROKEN, where SHEETS are, MIRROR, SEASON, what may be UNDONE); nothing else.");
        e.run("told g2 1;s1;s2;m3;y1;", "lays 0 0 0", "breaks 1 0", "keep 1 = 1", "takes 0 = 0", "lays 1 0 0", "mends 1 0", "moves 1 3", "back 1 = 1",
            "now 0 = 3", "now 1 = 1", "now 2 = 16", "now 3 = 2", "sheet 0 1 = 0", "pane 0 0 2 = 1", "count 4 = 2", "undo = 1", "now 2 = 0",
            "undo = 0", "now 3 = 3", "undo = STATE");
        // ten that may be UNDONE are kept with it, and no eleventh
        String[] rows = new String[0];
        for (int n = 0; n < 12; n++) {
            rows = Edge.with(rows, "breaks " + n / 4 + " " + n % 4);
        }
        rows = Edge.with(rows, "keep 0 = 12", "breaks 3 0", "breaks 3 1", "undo = 9", "undo = 8", "undo = 7", "back 0 = 12", "count 4 = 10");
        for (int left = 9; left >= 0; left--) {
            rows = Edge.with(rows, "undo = " + left, "now 2 = " + ((1 << left + 2) - 1));
        }
        e.run(Edge.with(rows, "undo = STATE", "back 0 = 12", "undo = 9"));
        // a deed behind it is the latest
        e.run("breaks 0 0", "keep 0 = 1", "breaks 0 1", "back 0 = 1", "breaks 0 2", "count 4 = 2", "undo = 1", "now 2 = 1", "undo = 0", "now 2 = 0");
    }

    private void backIsRefused() {
        e.says(28, "BAD; STATE: none was kept.");
        e.run("back 0 = STATE", "back 1 = STATE", "keep 1 = 0", "back 0 = STATE", "back 1 = 0", "keep 0 = 0", "back 0 = 0");
        e.run("keep 0 = 0", "back 1 = STATE", "back 0 = 0");
        e.run("keep 0 = 0", "keep 1 = 0", "window = 0", "back 0 = STATE", "back 1 = STATE");
        e.run("breaks 0 0", "keep 0 = 1", "text !", "window = FAULT 0", "back 0 = 1");
        e.bounds("back 0..1", "keep 0", "keep 1");
        e.bounds("back 0..1", TextEdges.RICH);
        e.says(28, "the first of these: BAD (a number is not as told, or there is no such thing), STATE (as told)");
        e.bounds("back 0..1 = STATE");
        e.bounds("back 0..1 = STATE", "told s1;", "lays 0 0 0", "breaks 1 1");
    }

    private void imagesKeepNothingElse() {
        e.says(28, "nothing else");
        e.run("told g2 2;", "keep 0", "saw 0 0 0 1", "text s1", "mark 0 0 0", "keep 1", "back 0 = 0", "count 3 = 1", "count 5 = 2", "trace = 1",
            "suspects = 0", "back 1 = 0");
        e.run("saw 0 0 0 7", "text xy", "keep 0", "forget = 1", "clear = 2", "back 0 = 0", "count 3 = 0", "count 5 = 0");
        // the other IMAGE stays as it is
        e.run("breaks 0 0", "keep 0 = 1", "breaks 0 1", "keep 1 = 2", "back 0 = 1", "back 1 = 2", "back 0 = 1", "keep 1 = 1", "back 1 = 1", "count 4 = 1");
    }

    private void count() {
        e.says(29, "0 WIDE, 1 HIGH, 2 SHEETS, 3 SEEN, 4 how many may be UNDONE, 5 bytes of THE TEXT. BAD.");
        e.bounds("count 0..5");
        e.bounds("count 0..5", TextEdges.RICH);
        e.run("told g1 1;", "count 0 = 1", "count 1 = 1", "count 2 = 0", "count 3 = 0", "count 4 = 0", "count 5 = 0");
        e.run("told g5 4;s1;s1;s1;s1;s1;s1;s1;s1;", "count 0 = 5", "count 1 = 4", "count 2 = 8");
        e.run("told g2 3;s1;", "saw 0 0 0 1", "breaks 0 0", "breaks 0 1", "text abcd", "count 0 = 2", "count 1 = 3", "count 2 = 1", "count 3 = 1",
            "count 4 = 2", "count 5 = 4");
        e.run("saw 0 0 0 1", "saw 0 0 0 1", "saw 0 0 0 1", "saw 0 0 0 1", "saw 0 0 0 1", "saw 0 0 0 1", "count 3 = 6", "saw 0 0 0 1 = FULL", "count 3 = 6");
        e.run("text " + "x".repeat(170), "count 5 = 170", "type 120 = FULL", "count 5 = 170");
        String[] rows = new String[0];
        for (int n = 1; n <= 12; n++) {
            rows = Edge.with(rows, n % 2 == 0 ? "mends 4 3" : "breaks 4 3", "count 4 = " + Math.min(n, 10));
        }
        e.run(rows);
    }

    private void trace() {
        e.says(30, "THE TRACE.");
        e.run("trace = 0");
        e.says(30, "(numbers in brackets come to THE TRACE as often as mark() asks that body; \"up\" is what the KIND above does)");
        int[] added = {1, 11, 101, 1011, 10101, 100001};
        for (int kind = 0; kind <= 5; kind++) {
            e.run("mark " + kind + " 0 0", "trace = " + added[kind], "mark " + kind + " 4 3", "trace = " + 2 * added[kind], "mark 0 0 0",
                "trace = " + (2 * added[kind] + 1));
        }
        // what is refused, and what is no MARK, comes to none of it
        e.run("mark 6 0 0 = NO", "mark -1 0 0 = NO", "mark 5 5 0 = NO", "mark 5 0 4 = NO", "light 0 0 0 = 7", "pane 0 0 3 = 7", "trace = 0");
        e.run("told s1;", "mark 1 0 0 = 7", "breaks 0 0", "undo = 0", "keep 0", "mark 1 0 0 = 7", "back 0", "forget = 0", "clear = 0", "trace = 22");
    }
}
