/** Boundary cases of what is done: promises 7 (lays) to 13 (now). */
final class DeedsEdges {
    private static final String EIGHT = "s7;s6;s5;s3;s4;s2;s1;s0;";

    private final Edge e;

    DeedsEdges(Edge e) {
        this.e = e;
    }

    void all() {
        lays();
        laysIsRefused();
        takes();
        breaks();
        mends();
        moves();
        movesLosesLight();
        undo();
        undoOfEach();
        undoKnowsTen();
        now();
        leads();
    }

    private void lays() {
        e.says(7, "LAID: what the PANE lets through then.");
        e.run("told p0 0 6;" + EIGHT, "lays 0 0 0 = 6", "lays 1 0 0 = 6", "lays 7 0 0 = 0", "now 3 = 124", "count 4 = 3");
        e.run("told " + EIGHT, "lays 0 4 3 = 7", "lays 7 4 3 = 0", "sheet 7 1 = 19", "sheet 0 1 = 19", "now 3 = 126",
            "lays 1 0 0 = 6", "now 3 = 124");
        e.says(7, "LAID: a SHEET from the BOX before a PANE that is not BROKEN, has fewer than 3.");
        // none, one and two before it are fewer than 3; a SHEET that is taken leaves room again
        e.run("told g2 1;" + EIGHT, "lays 0 0 0 = 7", "lays 1 0 0 = 6", "lays 2 0 0 = 4", "lays 3 0 0 = STATE", "lays 3 1 0 = 3",
            "takes 0 = 0", "lays 4 0 0 = 4", "lays 5 0 0 = STATE", "pane 0 0 2 = 22");
        // one that came back into the BOX may be laid again, at the same place or elsewhere
        e.run("told g2 1;s1;", "lays 0 0 0 = 1", "takes 0 = 0", "lays 0 0 0 = 1", "breaks 0 0 = 1", "lays 0 1 0 = 1",
            "mends 0 0 = 7", "lays 0 0 0 = STATE", "takes 0 = 4", "lays 0 0 0 = 1");
        // all eight
        e.run("told g3 1;" + EIGHT, "lays 0 0 0", "lays 1 0 0", "lays 2 0 0", "lays 3 1 0", "lays 4 1 0", "lays 5 1 0",
            "lays 6 2 0 = 1", "lays 7 2 0 = 0", "now 3 = 0");
    }

    private void laysIsRefused() {
        e.says(7, "BAD; STATE: the SHEET is not in the BOX, the PANE is BROKEN, has 3.");
        e.bounds("lays 0..7 0..4 0..3", "told " + EIGHT);
        e.bounds("lays 0..0 0..0 0..0", "told g1 1;s1;");
        e.bounds("lays 0..3 0..4 0..3", TextEdges.RICH);
        e.run("lays 0 0 0 = BAD");
        e.run("told g2 1;s1;s2;", "lays 0 0 0 = 1", "lays 0 0 0 = STATE", "lays 0 1 0 = STATE", "lays 1 1 0 = 2");
        e.run("told g2 1;s1;s2;", "breaks 0 0 = 0", "lays 0 0 0 = STATE", "mends 0 0 = 7", "lays 0 0 0 = 1");
        e.says(7, "the first of these: BAD (a number is not as told, or there is no such thing), STATE (as told), FULL.");
        // each reason for STATE alone, and BAD ahead of it
        e.bounds("lays 0..1 0..0 0..0 = STATE", "told g1 1;s1;s2;", "breaks 0 0");
        e.bounds("lays 0..2 0..0 0..0 = STATE", "told g1 1;s1;s2;s3;", "lays 0 0 0", "lays 1 0 0", "lays 2 0 0");
        e.bounds("lays 0..3 0..0 0..0 = STATE", "told g1 1;s1;s2;s3;s4;", "lays 0 0 0", "lays 1 0 0", "lays 2 0 0");
        e.bounds("lays 0..0 0..1 0..1 = STATE", "told g2 2;s1;", "lays 0 1 1");
        // (0, 1) is none where (1, 0) would be broken, or full
        e.run("told g2 1;s1;", "breaks 1 0 = 0", "lays 0 0 4 = BAD", "lays 0 2 -4 = BAD", "lays 1 1 0 = BAD", "lays -1 1 0 = BAD");
    }

    private void takes() {
        e.says(8, "TAKEN: the number of the PANE. BAD; STATE: it is in the BOX.");
        e.run("told " + EIGHT, "lays 0 0 0", "lays 7 4 3", "takes 0 = 0", "takes 7 = 19", "takes 0 = STATE", "takes 7 = STATE",
            "now 3 = 255", "count 4 = 4");
        // of three, the one in the middle
        e.run("told g1 1;s6;s5;s3;", "lays 0 0 0", "lays 1 0 0", "lays 2 0 0 = 0", "takes 1 = 0", "pane 0 0 2 = 5", "pane 0 0 3 = 2",
            "takes 1 = STATE");
        e.run("told g1 1;s6;", "lays 0 0 0", "breaks 0 0 = 1", "takes 0 = STATE", "mends 0 0 = 7", "takes 0 = STATE");
        e.run("takes 0 = BAD", "takes -1 = BAD");
        e.bounds("takes 0..3", TextEdges.RICH);
        e.says(8, "the first of these: BAD (a number is not as told, or there is no such thing), STATE (as told)");
        e.bounds("takes 0..7 = STATE", "told " + EIGHT);
        e.bounds("takes 0..0 = STATE", "told s1;");
    }

    private void breaks() {
        e.says(9, "BROKEN: how many SHEETS go into the BOX.");
        e.run("told g2 1;p0 0 0;" + EIGHT, "breaks 0 0 = 0", "mends 0 0 = 0", "lays 0 0 0", "breaks 0 0 = 1", "mends 0 0 = 0",
            "lays 0 0 0", "lays 1 0 0", "breaks 0 0 = 2", "mends 0 0 = 0", "lays 0 0 0", "lays 1 0 0", "lays 7 0 0", "lays 2 1 0",
            "breaks 0 0 = 3", "now 3 = 251", "sheet 2 1 = 4", "pane 0 0 2 = 0");
        e.says(9, "BROKEN: a PANE that is not; its SHEETS go into the BOX.");
        String[] rows = new String[20];
        for (int n = 0; n < 20; n++) {
            rows[n] = "breaks " + n / 4 + " " + n % 4 + " = 0";
        }
        e.run(Edge.with(rows, "now 2 = 1048575", "breaks 0 0 = STATE", "breaks 4 3 = STATE", "mends 4 3 = 7", "breaks 4 3 = 0"));
        e.says(9, "BAD; STATE: it is.");
        e.run("breaks 2 1 = 0", "breaks 2 1 = STATE", "undo = 0", "breaks 2 1 = 0");
        e.bounds("breaks 0..4 0..3");
        e.bounds("breaks 0..4 0..3", TextEdges.RICH);
        e.bounds("breaks 0..1 0..2", "told g2 3;");
        e.bounds("breaks 0..0 0..0 = STATE", "told g1 1;", "breaks 0 0");
        e.run("told g2 1;", "breaks 1 0 = 0", "breaks 0 4 = BAD", "breaks 2 -4 = BAD", "breaks 0 1 = BAD");
    }

    private void mends() {
        e.says(10, "MENDED: its GLASS. BAD; STATE: it is not BROKEN.");
        e.run("told p0 0 0;p4 3 5;", "mends 0 0 = STATE", "breaks 0 0 = 0", "breaks 4 3 = 0", "breaks 2 2 = 0", "mends 0 0 = 0",
            "mends 0 0 = STATE", "mends 4 3 = 5", "mends 2 2 = 7", "now 2 = 0", "mends 4 3 = STATE");
        e.says(10, "MENDED: a BROKEN PANE has its GLASS again.");
        e.run("told g1 1;p0 0 4;s6;", "lays 0 0 0 = 4", "breaks 0 0 = 1", "pane 0 0 3 = 7", "mends 0 0 = 4", "pane 0 0 3 = 4",
            "pane 0 0 2 = 0", "now 3 = 1");
        e.bounds("mends 0..4 0..3", TextEdges.RICH);
        e.says(10, "the first of these: BAD (a number is not as told, or there is no such thing), STATE (as told)");
        e.bounds("mends 0..4 0..3 = STATE");
        e.bounds("mends 0..1 0..2 = STATE", "told g2 3;");
        e.run("told g2 1;", "breaks 1 0 = 0", "mends 0 4 = BAD", "mends 2 -4 = BAD");
    }

    private void moves() {
        e.says(11, "BAD; STATE: both are so.");
        e.run("moves 12 0 = STATE", "moves 12 3 = 0", "moves 12 3 = STATE", "moves 1 3 = 12", "moves 1 3 = STATE", "moves 1 0 = 12",
            "moves 12 0 = 0", "moves 12 0 = STATE", "count 4 = 4");
        e.says(11, "MOVED: MIRROR, SEASON (both).");
        e.run("told m4;y1;", "moves 5 2 = 0", "now 0 = 5", "now 1 = 2", "undo = 0", "now 0 = 4", "now 1 = 1");
        e.bounds("moves 1..12 0..3");
        e.bounds("moves 1..12 0..3", TextEdges.RICH);
        e.says(11, "the first of these: BAD (a number is not as told, or there is no such thing), STATE (as told)");
        e.run("moves 12 -1 = BAD", "moves 12 4 = BAD", "moves 0 0 = BAD", "moves 13 0 = BAD", "moves 0 -1 = BAD");
        e.run("told m1;y3;", "moves 1 4 = BAD", "moves 0 3 = BAD", "moves 1 3 = STATE");
    }

    private void movesLosesLight() {
        e.says(11, "MOVED: how many PANES' light is lost at HOUR 0 then.");
        // columns from 2 times MIRROR on are lost: that one comes to -1, the one ahead of it to 0
        for (int wide = 1; wide <= 5; wide++) {
            for (int high = 1; high <= 4; high++) {
                String told = "told g" + wide + " " + high + ";";
                int one = new int[] {0, 0, 1, 2, 3}[wide - 1] * high;
                int two = wide == 5 ? high : 0;
                e.run(told, "moves 1 0 = " + one, "moves 2 0 = " + two, "moves 3 0 = 0", "moves 12 1 = 0", "moves 1 3 = " + one);
            }
        }
        // dark PANES and BROKEN ones, too
        e.run("told g5 1;p4 0 0;", "breaks 3 0 = 0", "moves 1 0 = 3");
    }

    private void undo() {
        e.says(12, "UNDONE: how many more may be. STATE: none.");
        e.run("undo = STATE", "breaks 0 0 = 0", "undo = 0", "undo = STATE", "now 2 = 0");
        e.run("breaks 0 0", "breaks 0 1", "undo = 1", "breaks 0 2", "count 4 = 2", "now 2 = 5", "undo = 1", "undo = 0", "undo = STATE");
        e.run("told s1;", "undo = STATE");
        // what is refused, asked, seen, kept, typed or marked is not among what may be UNDONE
        e.run("told s1;", "lays 0 0 0 = 1", "lays 0 0 0 = STATE", "moves 12 0 = STATE", "mends 0 0 = STATE", "breaks 5 0 = BAD",
            "saw 0 0 0 1 = 1", "keep 0 = 0", "back 0 = 0", "text x", "mark 0 0 0 = 1", "count 4 = 1", "undo = 0", "count 3 = 1",
            "count 5 = 1", "trace = 1");
    }

    private void undoOfEach() {
        e.says(12, "UNDONE: the latest LAID, TAKEN, BROKEN, MENDED, MOVED");
        e.run("told g1 1;p0 0 3;s6;", "lays 0 0 0 = 2", "undo = 0", "pane 0 0 2 = 0", "now 3 = 1", "pane 0 0 3 = 3", "undo = STATE");
        e.run("told g1 1;p0 0 3;s6;", "lays 0 0 0 = 2", "takes 0 = 0", "undo = 1", "pane 0 0 2 = 1", "now 3 = 0", "pane 0 0 3 = 2");
        e.run("told g1 1;p0 0 3;s6;s5;s1;", "lays 0 0 0", "lays 1 0 0", "lays 2 0 0", "breaks 0 0 = 3", "undo = 3", "pane 0 0 2 = 7",
            "now 2 = 0", "now 3 = 0", "pane 0 0 3 = 0");
        e.run("told g1 1;p0 0 3;", "breaks 0 0 = 0", "mends 0 0 = 3", "undo = 1", "now 2 = 1", "pane 0 0 3 = 7", "undo = 0", "now 2 = 0");
        e.run("told m9;y2;", "moves 1 3 = 12", "undo = 0", "now 0 = 9", "now 1 = 2", "undo = STATE");
    }

    private void undoKnowsTen() {
        e.says(12, "(10 are known, older ones are lost): all is as ahead of it.");
        for (int deeds : new int[] {9, 10, 11, 12, 20}) {
            String[] rows = new String[0];
            for (int n = 0; n < deeds; n++) {
                rows = Edge.with(rows, "breaks " + n / 4 + " " + n % 4 + " = 0", "count 4 = " + Math.min(n + 1, 10));
            }
            int known = Math.min(deeds, 10);
            for (int left = known - 1; left >= 0; left--) {
                rows = Edge.with(rows, "undo = " + left, "now 2 = " + ((1 << deeds - known + left) - 1));
            }
            rows = Edge.with(rows, "undo = STATE", "mends 4 3 = STATE", "breaks 4 3 = 0", "count 4 = 1", "undo = 0",
                "now 2 = " + ((1 << deeds - known) - 1));
            e.run(rows);
        }
        // an eleventh of each kind
        String[] ten = {"told g1 1;p0 0 3;s6;m9;y2;", "moves 1 1", "moves 2 1", "moves 3 1", "moves 4 1", "moves 5 1", "moves 6 1",
            "moves 7 1", "moves 8 1", "moves 9 1", "lays 0 0 0"};
        String[] all = {"undo = 9", "undo = 8", "undo = 7", "undo = 6", "undo = 5", "undo = 4", "undo = 3", "undo = 2", "undo = 1",
            "undo = 0", "now 0 = 1", "now 1 = 1", "undo = STATE"};
        e.run(Edge.with(Edge.with(ten, "takes 0 = 0", "count 4 = 10"), all));
        e.run(Edge.with(Edge.with(ten, "breaks 0 0 = 1", "count 4 = 10"), all));
        e.run(Edge.with(Edge.with(ten, "moves 10 0 = 0", "count 4 = 10"), all));
        e.run(Edge.with(Edge.with(ten, "count 4 = 10", "undo = 9", "lays 0 0 0 = 2", "count 4 = 10", "undo = 9", "now 0 = 9",
            "undo = 8", "now 0 = 8")));
    }

    private void now() {
        e.says(13, "0 MIRROR, 1 SEASON, 2 what is BROKEN (bits by numbers), 3 SHEETS in the BOX (bits), 4 LEADS, 5 PARTS (how many), 6 the greatest of them. BAD.");
        e.bounds("now 0..6");
        e.bounds("now 0..6", TextEdges.RICH);
        e.run("told m1;y3;", "now 0 = 1", "now 1 = 3", "moves 12 0 = 0", "now 0 = 12", "now 1 = 0");
        e.run("now 2 = 0", "breaks 0 0", "now 2 = 1", "breaks 4 3", "now 2 = 524289", "mends 0 0", "now 2 = 524288");
        e.run("now 3 = 0");
        e.run("told g3 1;" + EIGHT, "now 3 = 255", "lays 0 0 0", "now 3 = 254", "lays 7 0 0", "now 3 = 126", "lays 1 0 0",
            "lays 2 1 0", "lays 3 1 0", "lays 4 1 0", "lays 5 2 0", "lays 6 2 0", "now 3 = 0");
    }

    private void leads() {
        e.says(13, "LEADS: twos of PANES side by side (column or row one off) of unlike COLOUR NOW (GLASS; 7, if BROKEN).");
        parts("g1 1;", 0, 1, 1);
        parts("", 0, 1, 20);
        parts("g5 1;p0 0 1;", 1, 2, 4);
        parts("g1 4;p0 3 1;", 1, 2, 3);
        // not over an edge: (0, 3) and (1, 0) have numbers side by side; nor with PANES that are none
        parts("p0 3 1;p1 0 1;", 5, 3, 18);
        parts("g2 3;p0 2 1;p1 0 1;", 4, 3, 4);
        parts("g1 1;p0 0 1;", 0, 1, 1);
        // a corner is not side by side
        parts("g2 2;p0 0 1;p1 1 1;", 4, 4, 1);
        String unlike = "";
        for (int n = 0; n < 20; n++) {
            unlike += (n / 4 + n % 4) % 2 == 0 ? "p" + n / 4 + " " + n % 4 + " 0;" : "";
        }
        parts(unlike, 31, 20, 1);
        e.run("told g2 1;p0 0 0;", "now 4 = 1", "breaks 0 0 = 0", "now 4 = 0", "now 5 = 1", "now 6 = 2", "mends 0 0 = 0", "now 4 = 1");
        // what SHEETS let through is no COLOUR NOW
        e.run("told g3 1;s0;", "lays 0 1 0 = 0", "now 4 = 0", "now 5 = 1", "now 6 = 3");
        e.says(13, "PARTS of PANES of one COLOUR side by side: how many; the greatest (of how many PANES).");
        // one PART that winds through all of the window
        parts("p1 0 0;p1 1 0;p1 2 0;p3 1 0;p3 2 0;p3 3 0;", 14, 3, 14);
        parts("g3 3;p1 1 0;", 4, 2, 8);
        // arms that come together in the first column, the last, the first row, the last
        parts("g2 3;p1 1 0;", 3, 2, 5);
        parts("g2 3;p0 1 0;", 3, 2, 5);
        parts("g3 2;p1 1 0;", 3, 2, 5);
        parts("g3 2;p1 0 0;", 3, 2, 5);
        parts("p1 1 0;p2 1 0;p3 1 0;p4 1 0;", 9, 2, 16);
        parts("p0 1 0;p1 1 0;p2 1 0;p3 1 0;", 9, 2, 16);
        parts("g3 3;p0 1 0;p1 1 0;p2 1 0;", 6, 3, 3);
        parts("g2 1;p0 0 0;", 1, 2, 1);
    }

    private void parts(String text, int leads, int parts, int greatest) {
        e.run("told " + text, "now 4 = " + leads, "now 5 = " + parts, "now 6 = " + greatest);
    }
}
