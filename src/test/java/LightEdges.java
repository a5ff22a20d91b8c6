/** Boundary cases of light: promises 14 (light) to 20 (hail). */
final class LightEdges {
    private final Edge e;

    LightEdges(Edge e) {
        this.e = e;
    }

    void all() {
        light();
        lightByMirror();
        lightTogether();
        lit();
        when();
        mixOfOnePane();
        mixLeavesRoom();
        mixOfTwoPanes();
        mixIsRefused();
        childAndHours();
        childAndTiles();
        childIsRefused();
        paint();
        hail();
        hailIsRefused();
    }

    private void light() {
        e.says(14, "LIGHT of a TILE at an HOUR. BAD.");
        e.bounds("light 0..11 0..6 0..7");
        e.bounds("light 0..11 0..6 0..7", TextEdges.RICH);
        e.bounds("light 0..11 0..6 0..7", "told g1 1;m1;y3;");
        e.run("light -1 7 0 = BAD", "light 1 -7 0 = BAD", "light 12 -1 0 = BAD", "light 0 7 0 = BAD");
        e.says(14, "At HOUR h the light of a PANE (x, y) falls on column x and h together, row y and SEASON together");
        String corners = "told p0 0 1;p4 3 2;p4 0 4;p0 3 5;";
        e.run(corners, "light 0 0 0 = 1", "light 4 3 0 = 2", "light 4 0 0 = 4", "light 0 3 0 = 5", "light 5 0 0 = 0", "light 0 4 0 = 0");
        e.run(corners, "light 7 0 7 = 1", "light 11 3 7 = 2", "light 11 0 7 = 4", "light 7 3 7 = 5", "light 6 0 7 = 0", "light 11 4 7 = 0");
        e.run(corners, "moves 12 3", "light 0 3 0 = 1", "light 4 6 0 = 2", "light 4 3 0 = 4", "light 0 6 0 = 5", "light 0 2 0 = 0",
            "light 11 6 7 = 2", "light 11 3 7 = 4", "light 11 2 7 = 0", "light 11 6 6 = 0");
        e.says(14, "TILES (X, Y), X 0 .. 11, Y 0 .. 6, as a number 7 X and Y together. HOURS 0 .. 7.");
        for (int season = 0; season <= 3; season++) {
            for (int hour = 0; hour <= 7; hour++) {
                e.run("told g1 1;p0 0 2;y" + season + ";", "light " + hour + " " + season + " " + hour + " = 2", "lit 2 " + hour + " 0 = 1",
                    "lit 2 " + hour + " 1 = " + (7 * hour + season));
            }
        }
    }

    private void lightByMirror() {
        e.says(14, "if that column is MIRROR or beyond, on column 2 times MIRROR less 1 less that one instead (lost, if that is below 0)");
        for (int x = 0; x < 5; x++) {
            StringBuilder text = new StringBuilder("g5 1;");
            for (int other = 0; other < 5; other++) {
                text.append("p").append(other).append(other == x ? " 0 5;" : " 0 0;");
            }
            for (int mirror = 1; mirror <= 12; mirror++) {
                e.run(fallsOf(text.toString(), x, mirror, (x + mirror) % 4));
            }
        }
        // just ahead of it, at it, one beyond; the last that comes back, and the next, which is lost
        e.run("told g1 1;m4;", "light 3 0 3 = 7", "light 3 0 4 = 7", "light 4 0 4 = 0", "light 2 0 5 = 7", "light 0 0 7 = 7");
        e.run("told g1 1;m3;", "light 2 0 2 = 7", "light 2 0 3 = 7", "light 0 0 5 = 7", "lit 7 6 0 = 0", "lit 7 7 0 = 0");
        // 12 is none: column 11 is lit; 11 is one
        e.run("light 11 0 7 = 7", "moves 11 0 = 0", "light 11 0 7 = 0", "light 10 0 7 = 7");
        // 6 brings column 11 back to 0, 5 loses it, and brings column 9 there
        e.run("told p4 0 5;m6;", "light 0 0 7 = 5", "moves 5 0 = 0", "light 0 0 7 = 7", "lit 5 7 0 = 0");
    }

    private static String[] fallsOf(String text, int x, int mirror, int season) {
        String[] rows = {"told " + text + "m" + mirror + ";y" + season + ";"};
        for (int hour = 0; hour <= 7; hour++) {
            int column = x + hour < mirror ? x + hour : 2 * mirror - 1 - x - hour;
            rows = Edge.with(rows, "lit 5 " + hour + " 0 = " + (column < 0 ? 0 : 1), "lit 5 " + hour + " 1 = " + (column < 0 ? "NONE" : 7 * column + season));
        }
        return rows;
    }

    private void lightTogether() {
        e.says(14, "LIGHT of a TILE at an HOUR: what falls on it, together (or); dark, if nothing does.");
        e.run("told g2 1;p0 0 1;p1 0 4;m1;", "light 0 0 0 = 5", "light 0 0 1 = 1", "light 0 0 2 = 0", "light 1 0 0 = 0", "light 1 0 1 = 0");
        e.run("told g2 1;p0 0 3;p1 0 3;m1;", "light 0 0 0 = 3");
        e.run("told g2 1;p0 0 0;p1 0 2;m1;", "light 0 0 0 = 2", "breaks 0 0", "light 0 0 0 = 7");
        e.run("told g1 1;p0 0 0;", "light 0 0 0 = 0", "light 11 6 7 = 0");
    }

    private void lit() {
        e.says(15, "LIT: how many TILES (what = 0), the first (1; NONE). BAD.");
        e.bounds("lit 0..7 0..7 0..1");
        e.bounds("lit 0..7 0..7 0..1", TextEdges.RICH);
        // no TILE, and all 84
        e.run("told g1 1;p0 0 0;", "lit 0 0 0 = 84", "lit 0 0 1 = 0", "lit 0 7 0 = 84", "lit 7 0 0 = 0", "lit 7 0 1 = NONE", "lit 1 0 1 = NONE");
        e.run("told g1 1;m1;", "lit 7 1 0 = 1", "lit 7 2 0 = 0", "lit 7 2 1 = NONE", "lit 0 2 0 = 84");
        // the first of all TILES, the last of all TILES
        e.run("told g1 1;", "lit 7 0 0 = 1", "lit 7 0 1 = 0", "lit 0 0 0 = 83", "lit 0 0 1 = 1");
        e.run("told p4 3 2;y3;", "lit 2 7 0 = 1", "lit 2 7 1 = 83", "lit 7 7 0 = 19", "lit 7 7 1 = 52");
        e.says(15, "LIT by just a COLOUR at an HOUR: TILES, how many; the first (by numbers).");
        e.run("told g2 1;p0 0 3;p1 0 1;", "lit 1 0 0 = 1", "lit 1 0 1 = 7", "lit 2 0 0 = 0", "lit 2 0 1 = NONE", "lit 3 0 0 = 1", "lit 3 0 1 = 0");
        e.run("told g2 2;p1 0 1;p0 1 1;p1 1 1;", "lit 1 0 0 = 3", "lit 1 0 1 = 1");
    }

    private void when() {
        e.says(16, "WHEN; NONE. BAD.");
        e.bounds("when 0..11 0..6 0..7");
        e.bounds("when 0..11 0..6 0..7", TextEdges.RICH);
        e.run("when -1 7 0 = BAD", "when 1 -7 0 = BAD");
        e.says(16, "WHEN a TILE is just of a COLOUR: the first HOUR; NONE.");
        e.run("told g1 1;", "when 0 0 7 = 0", "when 7 0 7 = 7", "when 8 0 7 = NONE", "when 0 0 0 = 1", "when 8 0 0 = 0", "when 0 1 7 = NONE");
        e.run("told g2 1;p0 0 3;", "when 1 0 3 = 1", "when 1 0 7 = 0", "when 1 0 0 = 2", "when 1 0 1 = NONE", "when 8 0 7 = 7", "when 8 0 3 = NONE");
        e.run("told y3;", "when 11 6 7 = 7", "when 11 6 0 = 0");
        // HOURS 0 and 1 alike: the first
        e.run("told g2 1;", "when 1 0 7 = 0");
    }

    private void mixOfOnePane() {
        e.says(17, "MIX: how many (what = 0), before the PANE that lights it by itself (1, bits), before the other one (2, bits); NONE. BAD.");
        // none is needed
        mixed("told g1 1;p0 0 5;s1;", 0, 0, 5, 0, 0, 0);
        mixed("told g1 1;p0 0 5;", 0, 0, 5, 0, 0, 0);
        // NONE, whatever is asked of it: no SHEETS at all, none that helps
        mixed("told g1 1;p0 0 5;", 0, 0, 1, -9, -9, -9);
        mixed("told g1 1;p0 0 5;s6;s2;", 0, 0, 1, -9, -9, -9);
        mixed("told g1 1;p0 0 5;s7;", 0, 0, 7, -9, -9, -9);
        // asked again, of what an earlier one found nothing is left
        e.run("told g1 1;s6;s5;s3;", "mix 0 0 0 0 0 = 3", "mix 0 0 0 6 0 = 1", "mix 0 0 0 6 1 = 1", "mix 1 0 0 1 0 = NONE", "mix 1 0 0 1 1 = NONE",
            "mix 0 0 0 7 0 = 0", "mix 0 0 0 7 1 = 0", "mix 0 0 0 0 1 = 7");
        e.says(17, "(such as there are, not BROKEN, 3 at most before each)");
        mixed("told g1 1;s1;", 1, 0, 0, 0, 0, 0);
        mixed("told g1 1;s1;", 1, 0, 1, -9, -9, -9);
        mixed("told g1 1;s1;m5;", 9, 0, 0, 0, 0, 0);
        mixed("told g1 1;p0 0 3;s1;", 0, 0, 1, 1, 1, 0, "breaks 0 0", "mends 0 0");
        mixed("told g1 1;p0 0 3;s1;", 0, 0, 1, -9, -9, -9, "breaks 0 0");
        mixed("told g1 1;p0 0 3;s1;", 0, 0, 7, 0, 0, 0, "breaks 0 0");
        // the first and the last SHEET; just that COLOUR, not less and not more
        mixed("told g1 1;s7;s7;s7;s7;s7;s7;s7;s0;", 0, 0, 0, 1, 128, 0);
        mixed("told g1 1;s0;s7;s7;s7;s7;s7;s7;s0;", 0, 0, 0, 1, 1, 0);
        mixed("told g1 1;s0;s3;s1;", 0, 0, 1, 1, 4, 0);
    }

    private void mixLeavesRoom() {
        e.says(17, "3 at most before each");
        String four = "told g2 1;s6;s5;s3;s7;";
        mixed(four, 0, 0, 0, 3, 7, 0);
        mixed(four, 0, 0, 4, 2, 3, 0);
        // one before it, which does nothing, leaves room for two; two for one; three for none
        mixed(four, 0, 0, 0, -9, -9, -9, "lays 3 0 0");
        mixed(four, 0, 0, 4, 2, 3, 0, "lays 3 0 0");
        mixed("told g1 1;s6;s5;s7;s7;", 0, 0, 4, -9, -9, -9, "lays 2 0 0", "lays 3 0 0");
        mixed("told g1 1;s6;s5;s7;s7;", 0, 0, 6, 1, 1, 0, "lays 2 0 0", "lays 3 0 0");
        mixed("told g1 1;s6;s7;s7;s7;", 0, 0, 6, -9, -9, -9, "lays 1 0 0", "lays 2 0 0", "lays 3 0 0");
        mixed("told g1 1;s6;s7;s7;s7;", 0, 0, 7, 0, 0, 0, "lays 1 0 0", "lays 2 0 0", "lays 3 0 0");
        // the same before the one that lights it by the MIRROR: column 1 at HOUR 1 comes back to 0
        String mirrored = "told g1 1;m1;s6;s5;s3;s7;s7;s7;";
        mixed(mirrored, 0, 1, 0, 3, 0, 7);
        mixed(mirrored, 0, 1, 0, -9, -9, -9, "lays 3 0 0");
        mixed(mirrored, 0, 1, 4, 2, 0, 3, "lays 3 0 0");
        mixed(mirrored, 0, 1, 4, -9, -9, -9, "lays 3 0 0", "lays 4 0 0");
        mixed(mirrored, 0, 1, 6, 1, 0, 1, "lays 3 0 0", "lays 4 0 0");
        mixed(mirrored, 0, 1, 6, -9, -9, -9, "lays 3 0 0", "lays 4 0 0", "lays 5 0 0");
        mixed(mirrored, 0, 1, 7, 0, 0, 0, "breaks 0 0");
        mixed(mirrored, 0, 1, 6, -9, -9, -9, "breaks 0 0");
        e.says(17, "of all ways to lay SHEETS of the BOX");
        mixed("told g2 1;s1;", 0, 0, 1, 1, 1, 0);
        mixed("told g2 1;s1;", 0, 0, 1, -9, -9, -9, "lays 0 1 0");
        mixed("told g2 1;s1;", 0, 0, 1, 1, 1, 0, "lays 0 1 0", "takes 0");
        mixed("told g2 1;s1;s1;", 0, 0, 1, 1, 2, 0, "lays 0 1 0");
        mixed("told g2 1;m1;s1;", 0, 1, 1, 1, 0, 1);
        mixed("told g2 1;m1;s1;", 0, 1, 1, -9, -9, -9, "lays 0 1 0");
        mixed("told g2 1;m1;s1;s1;", 0, 1, 1, 1, 0, 2, "lays 0 1 0");
    }

    private void mixOfTwoPanes() {
        e.says(17, "so that LIGHT is just that COLOUR, that of fewest SHEETS, then the least bits before the former, then the latter");
        // at HOUR 0, column 0 has PANE 0 by itself, PANE 4 by a MIRROR at 1
        String two = "told g2 1;m1;";
        mixed(two, 0, 0, 7, 0, 0, 0);
        mixed(two + "s6;s5;s3;s6;s5;s3;", 0, 0, 0, 6, 7, 56);
        mixed(two + "s6;s5;s3;s6;s5;", 0, 0, 0, -9, -9, -9);
        mixed(two + "s0;", 0, 0, 0, -9, -9, -9);
        mixed(two + "s0;s0;", 0, 0, 0, 2, 1, 2);
        mixed(two + "s0;s7;s7;s7;s7;s7;s7;s0;", 0, 0, 0, 2, 1, 128);
        mixed(two + "s1;s2;s4;", 0, 0, 3, 2, 1, 2);
        // fewest ahead of least bits
        mixed(two + "s6;s5;s4;s4;", 0, 0, 4, 2, 4, 8);
        mixed("told g2 1;p0 0 6;p1 0 0;m1;s6;s5;s4;", 0, 0, 4, 1, 2, 0);
        // none before the former, though the latter's bits are greater then
        mixed("told g2 1;p0 0 1;p1 0 3;m1;s7;s2;s1;", 0, 0, 1, 1, 0, 4);
        mixed("told g2 1;p0 0 1;p1 0 2;m1;s2;s1;s0;", 0, 0, 1, 1, 0, 2);
        mixed("told g2 1;p0 0 1;p1 0 2;m1;s2;s1;s0;", 0, 0, 2, 1, 1, 0);
        mixed("told g2 1;p0 0 1;p1 0 2;m1;s2;s1;s0;", 0, 0, 0, 2, 1, 2);
        // before the one alone, if the other is BROKEN
        mixed("told g2 1;p0 0 1;p1 0 2;m1;s0;", 0, 0, 7, 0, 0, 0, "breaks 1 0");
        mixed("told g2 1;p0 0 1;p1 0 2;m1;s0;", 0, 0, 3, -9, -9, -9, "breaks 0 0");
    }

    private void mixIsRefused() {
        e.says(17, "MIX: how many (what = 0), before the PANE that lights it by itself (1, bits), before the other one (2, bits); NONE. BAD.");
        e.bounds("mix 0..11 0..6 0..7 0..7 0..2");
        e.bounds("mix 0..11 0..6 0..7 0..7 0..2", TextEdges.RICH);
        e.run("mix -1 7 0 7 0 = BAD", "mix 1 -7 0 7 0 = BAD", "mix 12 0 0 0 0 = BAD", "mix 0 0 0 8 0 = BAD");
    }

    /** MIX of tile (x, 0) at an HOUR, behind some rows: how many, and which before the former, the latter. */
    private void mixed(String told, int x, int h, int colour, int many, int former, int latter, String... ahead) {
        String call = "mix " + x + " 0 " + h + " " + colour + " ";
        String[] rows = Edge.with(new String[] {told}, ahead);
        e.run(Edge.with(rows, call + "0 = " + many, call + "1 = " + former, call + "2 = " + latter));
    }

    private void childAndHours() {
        e.says(18, "for how many HOURS at most (to HOUR 7; 0: not even then)");
        e.run("told g1 1;", "child 0 0 0 7 -1 = 8", "child 7 0 7 7 -1 = 1", "child 6 0 6 7 -1 = 2", "child 0 0 1 7 -1 = 0", "child 1 0 0 7 -1 = 0");
        e.run("told g1 1;m1;", "child 0 0 0 7 -1 = 2", "child 0 0 1 7 -1 = 1", "child 0 0 2 7 -1 = 0");
        e.run("told y3;", "child 4 6 0 7 -1 = 8", "child 11 6 7 7 -1 = 1", "child 11 6 6 7 -1 = 0");
        e.says(18, "it stands in LIGHT that has all of that COLOUR at least");
        e.run("told g1 1;p0 0 3;", "child 0 0 0 1 -1 = 8", "child 0 0 0 2 -1 = 8", "child 0 0 0 3 -1 = 8", "child 0 0 0 4 -1 = 0",
            "child 0 0 0 5 -1 = 0", "child 0 0 0 6 -1 = 0", "child 0 0 0 7 -1 = 0");
        e.says(18, "CHILD: how many HOURS (k = -1), the k-th TILE (0 ..; NONE: not so many).");
        e.run("told g1 1;", "child 0 0 0 7 0 = 0", "child 0 0 0 7 6 = 42", "child 0 0 0 7 7 = 49", "child 7 0 7 7 0 = 49", "child 7 0 7 7 1 = NONE",
            "child 7 0 7 7 7 = NONE", "child 6 0 6 7 1 = 49", "child 6 0 6 7 2 = NONE", "child 1 0 0 7 0 = NONE", "child 1 0 0 7 7 = NONE");
        e.run("told g1 1;m1;", "child 0 0 0 7 0 = 0", "child 0 0 0 7 1 = 0", "child 0 0 0 7 2 = NONE", "child 0 0 2 7 0 = NONE");
    }

    private void childAndTiles() {
        e.says(18, "from one HOUR to the next it stays, or goes to a TILE beside (column or row one off)");
        // a PANE that wanders, each way a TILE can be beside: a column on, a column back, a row on, a row back, none
        way("told g1 1;", "0 0 0 7", 0, 7, 14, 21, 28, 35, 42, 49);
        way("told g1 1;m4;", "0 0 0 7", 0, 7, 14, 21, 21, 14, 7, 0);
        way("told g2 2;p0 0 0;p1 1 0;", "1 0 0 7", 7, 8, 15, 22, 29, 36, 43, 50);
        way("told g2 2;p0 1 0;p1 0 0;", "1 1 0 7", 8, 7, 14, 21, 28, 35, 42, 49);
        way("told g2 2;p1 1 0;p0 0 0;", "0 1 0 7", 1, 8, 15, 22, 29, 36, 43, 50);
        // from the last row but one to the last
        way("told g2 4;y3;p0 0 0;p0 1 0;p0 2 0;p1 0 0;p1 1 0;p1 3 0;", "1 5 0 7", 12, 13, 20, 27, 34, 41, 48, 55);
        // nothing is beside the first column, or the first and the last row, over the edge; asked again when light has moved
        e.run("child 11 0 7 7 -1 = 1", "moves 6 0", "child 0 0 7 7 -1 = 1", "child 0 3 7 7 -1 = 1");
        e.run("told y3;", "child 11 6 7 7 -1 = 1", "moves 6 0", "child 0 0 7 7 -1 = 1");
        e.run("told y3;", "child 11 6 7 7 -1 = 1", "moves 6 3", "child 0 6 7 7 -1 = 1", "child 0 3 7 7 -1 = 1");
        // a corner is not beside: at HOUR 1 it stands in light that is lost at HOUR 2, when (1, 1) or (1, 0) has some
        way("told g3 2;m2;p0 0 0;p1 0 0;p1 1 0;p2 1 0;", "0 0 1 7", 0);
        way("told g3 2;m2;p0 1 0;p1 0 0;p1 1 0;p2 0 0;", "0 1 1 7", 1);
        // to the last column and the last row, at the last HOUR
        way("told p4 3 2;y3;", "4 6 0 7");
        way("told p4 3 2;y3;", "4 6 0 2", 34, 27, 20, 27, 34, 41, 48, 55);
        way("told g5 1;p0 0 0;p1 0 0;p2 0 0;p3 0 0;", "4 0 0 7", 28, 35, 42, 49, 56, 63, 70, 77);
        way("told g5 4;p0 0 0;p1 0 0;p2 0 0;p3 0 0;p0 1 0;p1 1 0;p2 1 0;p3 1 0;p0 2 0;p1 2 0;p2 2 0;p3 2 0;p0 3 0;p1 3 0;p2 3 0;p3 3 0;"
            + "p4 0 0;p4 1 0;p4 2 0;y3;", "4 6 0 7", 34, 41, 48, 55, 62, 69, 76, 83);
        e.says(18, "the k-th TILE of the first such way (by numbers, HOUR by HOUR)");
        way("told g5 1;", "4 0 0 7", 28, 21, 14, 21, 28, 35, 42, 49);
        way("told g1 4;m1;", "0 3 0 7", 3, 2);
        way("told g1 4;m1;", "0 0 0 7", 0, 0);
        // the longest ahead of the lowest: staying in column 0 (or 1) would end sooner
        way("told g2 1;", "0 0 0 7", 0, 7, 14, 21, 28, 35, 42, 49);
        way("told g2 1;", "1 0 0 7", 7, 7, 14, 21, 28, 35, 42, 49);
    }

    /** A way of a CHILD, HOUR by HOUR, and NONE behind its end. */
    private void way(String told, String from, int... tiles) {
        String[] rows = {told, "child " + from + " -1 = " + tiles.length};
        for (int k = 0; k < 8; k++) {
            rows = Edge.with(rows, "child " + from + " " + k + " = " + (k < tiles.length ? tiles[k] : PaneLight.NONE));
        }
        e.run(rows);
    }

    private void childIsRefused() {
        e.says(18, "BAD (k -1 .. 7).");
        e.bounds("child 0..11 0..6 0..7 1..7 -1..7");
        e.bounds("child 0..11 0..6 0..7 1..7 -1..7", TextEdges.RICH);
        e.run("child 0 0 0 7 -2 = BAD", "child 0 0 0 7 8 = BAD", "child -1 7 0 7 0 = BAD", "child 1 -7 0 7 0 = BAD");
        e.says(18, "CHILD from a TILE at an HOUR by a COLOUR (1 .. 7)");
        e.run("child 0 0 0 0 -1 = BAD", "child 0 0 0 8 -1 = BAD", "child 11 6 7 0 0 = BAD", "child 0 0 0 1 -1 = 8", "child 0 0 0 7 -1 = 8");
    }

    private void paint() {
        e.says(19, "PAINT: 8 times the PANE and the COLOUR (what = 0), LEADS then (1). BAD.");
        e.bounds("paint 0..1");
        e.bounds("paint 0..1", TextEdges.RICH);
        e.says(19, "PAINT: of all ways to give one PANE another COLOUR that of fewest LEADS then, of like ones the lowest PANE, then COLOUR");
        // one PANE alone: another COLOUR than its own, the least
        e.run("told g1 1;", "paint 0 = 0", "paint 1 = 0");
        e.run("told g1 1;p0 0 0;", "paint 0 = 1", "paint 1 = 0");
        e.run("told g1 1;p0 0 0;", "breaks 0 0", "paint 0 = 0", "paint 1 = 0");
        // all alike: LEADS can't but come, fewest at a corner
        e.run("paint 0 = 0", "paint 1 = 2");
        e.run("told g5 1;", "paint 0 = 0", "paint 1 = 1");
        e.run("told g1 2;p0 0 0;p0 1 0;", "paint 0 = 1", "paint 1 = 1");
        // the last PANE to the last COLOUR; the first PANE
        e.run("told p4 3 0;", "paint 0 = 159", "paint 1 = 0");
        e.run("told p0 0 0;", "paint 0 = 7", "paint 1 = 0");
        // of like ones the lowest PANE, of that one the lowest COLOUR
        e.run("told g1 2;p0 0 3;p0 1 5;", "paint 0 = 5", "paint 1 = 0");
        e.run("told g3 1;p0 0 1;p1 0 2;p2 0 3;", "paint 0 = 2", "paint 1 = 1");
        e.run("told g3 1;p0 0 6;p1 0 1;p2 0 4;", "paint 0 = 1", "paint 1 = 1");
        e.run("told g3 1;p0 0 6;p1 0 1;p2 0 6;", "paint 0 = 38", "paint 1 = 0");
        // all unlike, the most LEADS there can be
        StringBuilder unlike = new StringBuilder("told ");
        for (int n = 0; n < 20; n++) {
            unlike.append((n / 4 + n % 4) % 2 == 0 ? "p" + n / 4 + " " + n % 4 + " 0;" : "");
        }
        e.run(unlike.toString(), "now 4 = 31", "paint 0 = 47", "paint 1 = 27");
    }

    private void hail() {
        e.says(20, "HAIL on a TILE at an HOUR by x (0 .. 10): each PANE that is not BROKEN is BROKEN by x of 10, for itself: that LIGHT is 7 then: a fraction.");
        String one = "told g1 1;p0 0 3;m1;";
        String two = "told g2 1;p0 0 1;p1 0 2;m1;";
        int[][] ofOne = {{0, 1}, {1, 10}, {1, 5}, {3, 10}, {2, 5}, {1, 2}, {3, 5}, {7, 10}, {4, 5}, {9, 10}, {1, 1}};
        int[][] ofTwo = {{0, 1}, {19, 100}, {9, 25}, {51, 100}, {16, 25}, {3, 4}, {21, 25}, {91, 100}, {24, 25}, {99, 100}, {1, 1}};
        for (int odd = 0; odd <= 10; odd++) {
            odds(one, 0, 0, odd, ofOne[odd][0], ofOne[odd][1]);
            odds(one, 0, 1, odd, ofOne[odd][0], ofOne[odd][1]);
            odds(two, 0, 0, odd, ofTwo[odd][0], ofTwo[odd][1]);
            // nothing falls there: never; 7 as it is: always
            odds(one, 0, 2, odd, 0, 1);
            odds(one, 11, 7, odd, 0, 1);
            odds("told g1 1;", 0, 0, odd, 1, 1);
            odds("told g2 1;p0 0 1;p1 0 6;m1;", 0, 0, odd, 1, 1);
            odds(one, 0, 0, odd, 1, 1, "breaks 0 0");
            odds(two, 0, 0, odd, 1, 1, "breaks 1 0");
            // a SHEET before a clear PANE goes with it
            odds("told g1 1;s3;", 0, 0, odd, ofOne[odd][0], ofOne[odd][1], "lays 0 0 0");
        }
        e.says(20, "HAIL: upper (what = 0), lower number (1), in least terms.");
        odds(one, 0, 0, 0, 0, 1);
        odds(two, 0, 0, 0, 0, 1);
        odds(one, 0, 0, 10, 1, 1);
        odds(two, 0, 0, 10, 1, 1);
    }

    private void hailIsRefused() {
        e.says(20, "BAD (a number is not as told, or there is no such thing)");
        e.bounds("hail 0..11 0..6 0..7 0..10 0..1");
        e.bounds("hail 0..11 0..6 0..7 0..10 0..1", TextEdges.RICH);
        e.run("hail -1 7 0 5 0 = BAD", "hail 1 -7 0 5 0 = BAD", "hail 0 0 0 -1 0 = BAD", "hail 0 0 0 11 0 = BAD");
    }

    private void odds(String told, int x, int h, int odd, int upper, int lower, String... ahead) {
        String call = "hail " + x + " 0 " + h + " " + odd + " ";
        e.run(Edge.with(Edge.with(new String[] {told}, ahead), call + "0 = " + upper, call + "1 = " + lower));
    }
}
