/** Boundary cases of what was seen: promises 21 (saw) to 25 (look). */
final class SeenEdges {
    private static final int AS_IT_IS = 1 << 20;
    private static final String[] SIX = {"saw 0 0 0 7 = 1", "saw 0 0 0 7 = 2", "saw 11 6 7 0 = 3", "saw 1 0 0 7 = 4", "saw 0 1 0 7 = 5", "saw 4 3 0 7 = 6"};

    private final Edge e;

    SeenEdges(Edge e) {
        this.e = e;
    }

    void all() {
        saw();
        forget();
        suspects();
        suspectsAlone();
        glasses();
        look();
    }

    private void saw() {
        e.says(21, "SEEN: how much there is. BAD; FULL.");
        e.run("saw 0 0 0 0 = 1", "saw 11 6 7 7 = 2", "count 3 = 2");
        e.bounds("saw 0..11 0..6 0..7 0..7");
        e.bounds("saw 0..11 0..6 0..7 0..7", TextEdges.RICH);
        e.run("saw -1 7 0 7 = BAD", "saw 1 -7 0 7 = BAD", "saw 0 0 8 7 = BAD", "saw 0 0 0 8 = BAD", "count 3 = 0");
        e.says(21, "SEEN (6 at most): a TILE was just of a COLOUR at an HOUR.");
        e.run(Edge.with(SIX, "saw 0 0 0 7 = FULL", "saw 0 0 0 1 = FULL", "count 3 = 6", "suspects = 2097151", "glasses 0 0 = 128",
            "forget = 6", "saw 0 0 0 1 = 1", "suspects = 0"));
        // what is SEEN of other TILES, HOURS, COLOURS, and the same again, all count
        e.run("saw 0 0 0 1 = 1", "saw 0 0 0 1 = 2", "saw 0 0 0 2 = 3", "saw 0 0 1 1 = 4", "saw 0 1 0 1 = 5", "saw 1 0 0 1 = 6", "saw 1 0 0 1 = FULL");
        e.says(21, "the first of these: BAD (a number is not as told, or there is no such thing), STATE (as told), FULL.");
        e.bounds("saw 0..11 0..6 0..7 0..7 = FULL", SIX);
        e.bounds("saw 0..11 0..6 0..7 0..7 = FULL", Edge.with(TextEdges.RICH, "saw 0 0 0 1", "saw 1 1 1 0", "saw 0 1 0 0", "saw 11 0 7 0"));
    }

    private void forget() {
        e.says(22, "Nothing was SEEN: how much was.");
        e.run("forget = 0", "forget = 0", "count 3 = 0");
        e.run("saw 0 0 0 1 = 1", "suspects = 0", "forget = 1", "count 3 = 0", "suspects = 2097151", "glasses 0 0 = 255", "forget = 0");
        e.run(Edge.with(SIX, "forget = 6", "count 3 = 0", "forget = 0", "saw 0 0 0 7 = 1", "count 3 = 1"));
        // of what was forgotten nothing counts again
        e.run("saw 1 1 0 1", "saw 2 2 0 1", "forget = 2", "saw 0 0 0 7 = 1", "suspects = 2097151");
    }

    private void suspects() {
        e.says(23, "SUSPECTS, as bits.");
        e.run("suspects = 2097151");
        e.run("told g1 1;", "suspects = " + (AS_IT_IS | 1));
        e.run("told g2 3;", "suspects = " + (AS_IT_IS | 0b1110111));
        e.run("saw 11 6 7 1", "suspects = 0");
        e.says(23, "PANES that are not BROKEN (bits by numbers) each of which, were it alone BROKEN, too, makes all that was SEEN so");
        // the first PANE alone, the last PANE alone
        e.run("told p0 0 1;", "saw 0 0 0 7", "suspects = 1");
        e.run("told p4 3 1;", "saw 4 3 0 7", "suspects = 524288");
        e.run("told g1 1;p0 0 1;", "breaks 0 0", "suspects = " + AS_IT_IS, "saw 0 0 0 7", "suspects = " + AS_IT_IS);
        String[] broken = new String[20];
        for (int n = 0; n < 20; n++) {
            broken[n] = "breaks " + n / 4 + " " + n % 4;
        }
        e.run(Edge.with(broken, "suspects = " + AS_IT_IS, "saw 0 0 0 0", "suspects = 0"));
        // one alone, but what is BROKEN stays so
        e.run("told g2 1;p0 0 1;p1 0 1;", "saw 0 0 0 7", "saw 1 0 0 7", "suspects = 0", "breaks 0 0", "suspects = 16", "breaks 1 0",
            "suspects = " + AS_IT_IS);
        // its SHEETS are gone then
        e.run("told g2 1;s0;", "lays 0 0 0 = 0", "saw 0 0 0 7", "suspects = 1");
        e.says(23, "bit 20: all is so as it is");
        e.run("told g1 1;p0 0 1;", "suspects = " + (AS_IT_IS | 1), "saw 0 0 0 1", "suspects = " + AS_IT_IS, "forget = 1", "saw 0 0 0 7", "suspects = 1");
        e.run("told g1 1;", "saw 0 0 0 7", "suspects = " + (AS_IT_IS | 1));
        e.run("told g1 1;p0 0 1;", "saw 1 0 0 0", "suspects = " + (AS_IT_IS | 1), "saw 1 0 1 7", "suspects = 1");
    }

    private void suspectsAlone() {
        e.says(23, "makes all that was SEEN so");
        // each of the six counts, the first and the last, too; just that COLOUR, neither more nor less
        for (int odd = 0; odd < 6; odd++) {
            String[] rows = {"told g3 2;p0 0 1;"};
            for (int i = 0; i < 6; i++) {
                rows = Edge.with(rows, "saw " + i / 2 + " " + i % 2 + " 0 " + (i == odd ? 3 : i == 0 ? 1 : 7));
            }
            e.run(Edge.with(rows, "suspects = 0", "look = NONE"));
        }
        e.run("told g1 1;p0 0 3;", "saw 0 0 0 1", "suspects = 0");
        e.run("told g1 1;p0 0 1;", "saw 0 0 0 3", "suspects = 0");
        // by the HOUR, the SEASON, the MIRROR
        e.run("told g1 1;p0 0 1;y3;", "saw 7 3 7 7", "suspects = 1", "moves 12 2", "suspects = 0");
        e.run("told g2 1;p0 0 1;p1 0 2;m1;", "saw 0 0 0 7", "suspects = 17", "saw 0 0 1 7", "suspects = 1", "moves 2 0", "suspects = 0");
    }

    private void glasses() {
        e.says(24, "GLASSES, as bits. BAD.");
        e.bounds("glasses 0..4 0..3");
        e.bounds("glasses 0..4 0..3", TextEdges.RICH);
        e.bounds("glasses 0..0 0..0", "told g1 1;");
        e.bounds("glasses 0..1 0..2", "told g2 3;");
        e.run("glasses -1 4 = BAD", "glasses 1 -4 = BAD");
        e.says(24, "GLASSES of a PANE: COLOURS (bits 0 .. 7) each of which, were it that PANE's GLASS (and it not BROKEN), makes all that was SEEN so.");
        e.run("glasses 0 0 = 255", "glasses 4 3 = 255");
        for (int colour = 0; colour <= 7; colour++) {
            e.run("told g1 1;p0 0 4;", "saw 0 0 0 " + colour, "glasses 0 0 = " + (1 << colour), "breaks 0 0", "glasses 0 0 = " + (1 << colour));
        }
        e.run("told g1 1;", "saw 0 0 0 1", "saw 0 0 0 2", "glasses 0 0 = 0");
        e.run("told g1 1;", "saw 1 0 0 1", "glasses 0 0 = 0", "forget = 1", "saw 1 0 0 0", "glasses 0 0 = 255");
        // behind SHEETS: one that lets all through, one that lets nothing
        e.run("told g1 1;s7;s0;", "lays 0 0 0 = 7", "saw 0 0 0 5", "glasses 0 0 = 32", "lays 1 0 0 = 0", "glasses 0 0 = 0", "forget = 1",
            "saw 0 0 0 0", "glasses 0 0 = 255", "breaks 0 0 = 2", "glasses 0 0 = 1");
        // together with another PANE, by the MIRROR, too
        e.run("told g2 1;p0 0 1;p1 0 2;m1;", "saw 0 0 0 3", "glasses 0 0 = 10", "glasses 1 0 = 12");
        e.run("told g2 1;p0 0 1;p1 0 2;m1;", "breaks 1 0", "saw 0 0 0 7", "glasses 0 0 = 255", "glasses 1 0 = 192");
    }

    private void look() {
        e.says(25, "LOOK; NONE.");
        e.run("saw 0 0 0 1", "suspects = 0", "look = NONE", "forget = 1", "look = 0");
        e.says(25, "LOOK: the TILE and HOUR (8 times the TILE and the HOUR) at which the greatest number of SUSPECTS (bit 20, too) by which LIGHT is alike is least, of like ones the least; NONE (no SUSPECTS).");
        // one alone, or all alike everywhere: the first place
        e.run("told g1 1;", "look = 0");
        e.run("told g1 1;p0 0 1;", "breaks 0 0", "suspects = " + AS_IT_IS, "look = 0");
        e.run("told g2 1;p1 0 1;", "saw 1 0 0 7", "suspects = 16", "look = 0");
        // the first place that tells at all, though later ones do as well
        e.run("told g1 1;p0 0 1;", "look = 0");
        e.run("told g2 1;p1 0 1;", "look = 56");
        e.run("told g1 2;p0 1 1;", "look = 8");
        e.run("told p4 3 1;y3;", "look = 272");
        e.run("told p4 3 1;m1;", "look = 0");
        e.run("told p4 3 1;m2;", "look = 0");
        e.run("told p4 3 1;m3;", "look = 25");
        // at HOUR 1 first: (2, 0) comes to column 0 by a MIRROR at 2
        e.run("told g3 1;p2 0 1;m2;", "look = 1");
        // bit 20 counts: of two PANES and it, either PANE alone tells one from two; of it and one, all is told
        e.run("told g2 1;p0 0 1;p1 0 2;", "look = 0", "saw 0 0 0 1", "suspects = " + (AS_IT_IS | 16), "look = 56");
        // two PANES on one TILE tell more: of four, two from two
        e.run("told g3 1;p0 0 1;p1 0 2;p2 0 3;m2;", "look = 56");
        // at the last HOUR alone two of them fall on one TILE: (3, 3) and, by a MIRROR at 11, (4, 3)
        e.run("told p3 3 1;p4 3 2;m11;y3;", "look = 615", "moves 12 3", "look = 216");
        e.run("told p3 0 1;p4 0 2;m11;", "look = 567");
        // a TILE that is clear as it is tells nothing
        e.run("told g3 1;p0 0 1;p1 0 1;m2;", "breaks 2 0", "look = 0", "light 1 0 0 = 7");
    }
}
