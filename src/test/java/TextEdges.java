/** Boundary cases of THE TEXT: promises 2 (type), 3 (clear), 4 (window). */
final class TextEdges {
    /** Something of everything: told, done, kept, seen, traced, and a text that is begun. */
    static final String[] RICH = {
        "told g5 4;p0 0 1;p1 1 6;p4 3 2;s6;s5;s3;s1;m7;y2;", "lays 0 1 1", "breaks 2 2", "keep 0", "moves 5 1", "lays 1 0 0",
        "lays 3 1 1", "keep 1", "takes 0", "breaks 4 0", "saw 1 1 0 1", "saw 2 3 0 7", "mark 4 1 1", "text g2 2;p1 1 5;s2;s4;y1;",
    };

    private final Edge e;

    TextEdges(Edge e) {
        this.e = e;
    }

    void all() {
        type();
        typeOnAFullText();
        clear();
        windowCountsItems();
        windowWithAFault();
        blanks();
        stops();
        size();
        glass();
        sheets();
        mirrorAndSeason();
        onceAtMost();
        letters();
        everyByte();
        numbersTooLarge();
        numbersWithAZeroAhead();
        theFirstFault();
        endsTooEarly();
        readAnew();
    }

    private void type() {
        e.says(2, "A byte (0 .. 255) comes to THE TEXT: how many it has. BAD; FULL.");
        e.run("type 0 = 1", "type 255 = 2", "type 0 = 3", "count 5 = 3");
        e.run("type -1 = BAD", "type 256 = BAD", "type 255 = 1");
        e.bounds("type 0..255");
        e.bounds("type 0..255", RICH);
    }

    private void typeOnAFullText() {
        e.says(2, "a text (170 bytes at most)");
        e.run("text " + " ".repeat(169), "type 32 = 170", "type 32 = FULL", "type 32 = FULL", "count 5 = 170");
        e.run("text " + " ".repeat(167) + "s5;", "type 120 = FULL", "window = 1", "sheet 0 0 = 5");
        e.run("text " + " ".repeat(168) + "s5", "type 59 = FULL", "window = FAULT 170");
        e.run("text " + " ".repeat(170), "clear = 170", "type 32 = 1");
        e.run("text " + " ".repeat(170), "window = 0", "type 32 = 1");
        e.says(2, "Refused, and nothing changes, the first of these: BAD (a number is not as told, or there is no such thing), STATE (as told), FULL.");
        e.bounds("type 0..255 = FULL", "text " + " ".repeat(170));
        e.bounds("type 0..255 = FULL", "text " + "s3;".repeat(8) + " ".repeat(146));
    }

    private void clear() {
        e.says(3, "THE TEXT is empty: how many bytes it had.");
        e.run("clear = 0", "clear = 0", "window = 0");
        e.run("type 120 = 1", "clear = 1", "count 5 = 0", "clear = 0", "window = 0");
        e.run("text s1;x", "clear = 4", "text s2;", "window = 1", "count 2 = 1", "sheet 0 0 = 2");
        e.run("text " + "x".repeat(169), "clear = 169", "count 5 = 0");
        e.run("text " + "x".repeat(170), "clear = 170", "count 5 = 0", "text " + " ".repeat(170), "count 5 = 170", "window = 0");
        // what an earlier, longer text had is not read again
        e.run("text s12", "clear = 3", "text s1", "window = FAULT 2");
        e.run("text s1;s", "clear = 4", "text s1;", "window = 1");
    }

    private void windowCountsItems() {
        e.says(4, "THE TEXT tells all, and is empty then: how many ITEMS.");
        e.run("window = 0", "count 0 = 5", "count 1 = 4", "count 2 = 0", "now 0 = 12", "now 1 = 0", "window = 0");
        e.run("text  ", "window = 0", "count 5 = 0");
        e.run("text " + " ".repeat(170), "window = 0", "count 5 = 0");
        e.run("text s1;", "window = 1", "count 5 = 0", "count 2 = 1", "window = 0", "count 2 = 0");
        e.run("text g5 4;", "window = 1");
        // 30 ITEMS are the most that 170 bytes can tell: 8 SHEETS, MIRROR, SEASON, 20 times GLASS
        e.run("text " + "s1;".repeat(8) + "m1;y1;" + "p0 0 0;".repeat(20), "count 5 = 170", "window = 30");
        e.run("text " + "p4 3 0;".repeat(24) + "  ", "count 5 = 170", "window = 24", "pane 4 3 0 = 0");
    }

    private void windowWithAFault() {
        e.says(4, "-10 less FAULT: nothing changes.");
        e.run("text x", "window = FAULT 0", "window = FAULT 0", "count 5 = 1");
        e.run("text s", "window = FAULT 1");
        e.run("text " + " ".repeat(169) + "x", "window = FAULT 169");
        e.run("text " + " ".repeat(169) + "s", "window = FAULT 170", "count 5 = 170");
        // it stays, to be typed on or cleared
        e.run("text s1", "window = FAULT 2", "type 59 = 3", "window = 1", "sheet 0 0 = 1");
        e.run("text g1 1;s1;!", "window = FAULT 8", "clear = 9", "count 0 = 5", "count 2 = 0", "window = 0");
        String[] texts = {"!", "g1 1;p0 0 0;s7;s7;m1;y3;?", "s0;s0;s0;s0;s0;s0;s0;s0;s0;", "m1;m1;", "g3 3;p0 0 7;s"};
        int[] places = {0, 24, 24, 3, 13};
        String[] rich = TextEdges.RICH.clone();
        for (int i = 0; i < texts.length; i++) {
            rich[rich.length - 1] = "text " + texts[i];
            e.run(Edge.with(rich, "window = FAULT " + places[i], "count 5 = " + texts[i].length(), "count 3 = 2",
                "count 2 = 4", "trace = 10101", "back 0 = 1", "back 1 = 1"));
        }
    }

    private void blanks() {
        e.says(4, "blanks (32) between TOKENS");
        read("   g   5   4   ;   s   1   ;   ", 2);
        read("g5 4;s1;m1;y1;", 4);
        fault("g54;", 1);
        fault("g5 4 4;", 5);
        fault("m1 2;", 3);
        fault("p43 0;", 1);
        for (int other : new int[] {0, 9, 10, 11, 12, 13, 31, 33, 95, 127, 160, 255}) {
            fault("s" + (char) other + "1;", 1);
            fault("s1;" + (char) other, 3);
        }
    }

    private void stops() {
        e.says(4, "ITEMS, each letters and what is told, ended by ;");
        read("s1;", 1);
        fault(";", 0);
        fault("s1;;", 3);
        fault("s;", 1);
        fault("s1 s1;", 3);
        fault("s1s1;", 2);
        fault("s1 1;", 3);
        fault("g1 1p0 0 0;", 4);
        fault("g1;", 2);
        fault("g;", 1);
        fault("g1 1 1;", 5);
        fault("p;", 1);
        fault("p1;", 2);
        fault("p1 1;", 4);
        fault("p1 1 1 1;", 7);
        fault("m;", 1);
        fault("m1 1;", 3);
        fault("y;", 1);
        fault("y1 1;", 3);
        fault("1;", 0);
        fault("s1;1", 3);
    }

    private void size() {
        e.says(4, "5; 5 at first), HIGH (1 .. 4; 4 at first)");
        for (int wide = 1; wide <= 5; wide++) {
            e.run("told g" + wide + " 2;", "count 0 = " + wide, "pane " + (wide - 1) + " 0 0 = 7", "pane " + wide + " 0 0 = BAD");
        }
        fault("g0 1;", 1);
        fault("g6 1;", 1);
        e.run("told g2 2;", "told s1;", "count 0 = 5");
        for (int high = 1; high <= 4; high++) {
            e.run("told g2 " + high + ";", "count 1 = " + high, "pane 0 " + (high - 1) + " 0 = 7", "pane 0 " + high + " 0 = BAD");
        }
        fault("g1 0;", 3);
        fault("g1 5;", 3);
        e.run("told g2 2;", "told s1;", "count 1 = 4");
        e.says(4, "g W H (the first of all, if it is told)");
        read("g1 1;s1;", 2);
        read("  g1 1;", 1);
        e.run("told p4 3 1;", "count 0 = 5", "count 1 = 4", "pane 4 3 0 = 1");
        e.says(4, "g behind another ITEM");
        for (String item : new String[] {"g5 4;", "p0 0 0;", "s1;", "m1;", "y1;"}) {
            fault(item + "g5 4;", item.length());
            fault(item + "g", item.length());
            fault(item + "s1; g9 9;", item.length() + 4);
        }
    }

    private void glass() {
        e.says(4, "p X Y C (GLASS of a PANE; told again: the later)");
        e.run("told p2 1 3;p2 1 4;", "pane 2 1 0 = 4");
        e.run("told p2 1 3;p0 0 1;p2 1 4;p2 1 7;", "pane 2 1 0 = 7", "pane 0 0 0 = 1");
        e.run("told p0 0 1;p4 3 2;", "pane 0 0 0 = 1", "pane 4 3 0 = 2", "pane 0 3 0 = 7", "pane 4 0 0 = 7");
        e.run("told g1 1;p0 0 0;", "pane 0 0 0 = 0");
        // the GLASS of a text that was read, or refused, earlier is not left
        e.run("told p0 0 1;", "told p1 1 2;", "pane 0 0 0 = 7", "pane 1 1 0 = 2", "text p3 3 3;!", "window = FAULT 7", "clear = 8",
            "told p0 1 1;", "pane 3 3 0 = 7", "pane 1 1 0 = 7");
        e.says(4, "COLOURS are bits: 1 red, 2 yellow, 4 blue (0 dark, 7 clear)");
        for (int colour = 0; colour <= 7; colour++) {
            e.run("told p0 0 " + colour + ";s" + colour + ";", "pane 0 0 0 = " + colour, "sheet 0 0 = " + colour);
        }
        fault("p0 0 8;", 5);
        fault("p0 0 99;", 5);
        fault("s8;", 1);
        fault("s99;", 1);
        e.says(4, "a NUMBER beyond what it may be");
        fault("p5 0 0;", 1);
        fault("p0 4 0;", 3);
        fault("p99 0 0;", 1);
        for (int wide = 1; wide <= 5; wide++) {
            for (int high = 1; high <= 4; high++) {
                String size = "g" + wide + " " + high + ";";
                read(size + "p" + (wide - 1) + " " + (high - 1) + " 0;", 2);
                fault(size + "p" + wide + " 0 0;", 6);
                fault(size + "p0 " + high + " 0;", 8);
            }
        }
    }

    private void sheets() {
        e.says(4, "s C (the next SHEET)");
        e.run("told s3;s5;s0;", "count 2 = 3", "sheet 0 0 = 3", "sheet 1 0 = 5", "sheet 2 0 = 0", "sheet 3 0 = BAD");
        e.says(4, "SHEETS 0 .. (8 at most): COLOUR.");
        e.run("told ", "count 2 = 0", "sheet 0 0 = BAD", "now 3 = 0");
        e.run("told s1;", "count 2 = 1", "sheet 0 0 = 1", "sheet 1 0 = BAD", "now 3 = 1");
        e.run("told s0;s1;s2;s3;s4;s5;s6;", "count 2 = 7", "sheet 6 0 = 6", "sheet 7 0 = BAD", "now 3 = 127");
        e.run("told s0;s1;s2;s3;s4;s5;s6;s7;", "count 2 = 8", "sheet 7 0 = 7", "sheet 8 0 = BAD", "now 3 = 255");
        e.says(4, "a ninth SHEET");
        String eight = "s1;".repeat(8);
        read(eight + "m1;p0 0 0;", 10);
        fault(eight + "s1;", 24);
        fault(eight + " m1; s1;", 29);
        fault(eight + "s", 24);
        fault(eight + "s8;", 24);
        e.run("told " + eight, "told " + eight, "count 2 = 8");
    }

    private void mirrorAndSeason() {
        e.says(4, "MIRROR (1 .. 12; 12 at first: none)");
        for (int mirror = 1; mirror <= 12; mirror++) {
            e.run("told m" + mirror + ";", "now 0 = " + mirror, "now 1 = 0");
        }
        fault("m0;", 1);
        fault("m13;", 1);
        fault("m99;", 1);
        e.run("told m3;", "told y1;", "now 0 = 12");
        e.says(4, "SEASON (0 .. 3; 0 at first)");
        for (int season = 0; season <= 3; season++) {
            e.run("told y" + season + ";", "now 1 = " + season, "now 0 = 12");
        }
        fault("y4;", 1);
        fault("y99;", 1);
        e.run("told y3;", "told m1;", "now 1 = 0", "told y2;", "told m2;", "now 1 = 0", "now 0 = 2", "told y3;", "told y1;", "told s1;", "now 1 = 0");
    }

    private void onceAtMost() {
        e.says(4, "m N (MIRROR), y N (SEASON; once at most each)");
        read("m1;y1;", 2);
        read("y1;m1;", 2);
        fault("m12;m12;", 4);
        fault("m1; m", 4);
        fault("m1;m0;", 3);
        fault("m1;y1;m1;", 6);
        fault("y0;y0;", 3);
        fault("y0; y", 4);
        fault("y0;y4;", 3);
        fault("y1;m1;y1;", 6);
        // once in each text
        e.run("told m1;y1;", "told m2;y2;", "now 0 = 2", "now 1 = 2", "text m3;y3;m3;", "window = FAULT 6", "clear = 9", "told m4;y0;",
            "now 0 = 4", "now 1 = 0");
    }

    private void letters() {
        e.says(4, "letters that begin no ITEM");
        for (char c = 'a'; c <= 'z'; c++) {
            if ("gpsmy".indexOf(c) < 0) {
                fault(c + " 1;", 0);
                fault("s1; " + c + "1;", 4);
            }
            // letters side by side are one TOKEN, so the fault is where they begin
            fault("  g" + c + "1 1;", 2);
            fault("s" + c + "1;", 0);
            fault(c + "m1;", 0);
            fault("s1" + c + ";", 2);
        }
        fault("gg1 1;", 0);
        fault("ss1;", 0);
        fault("gpsmy", 0);
        fault("m".repeat(170), 0);
    }

    private void everyByte() {
        e.says(4, "of a byte that begins none");
        for (int b = 0; b <= 255; b++) {
            boolean letter = b >= 'a' && b <= 'z';
            boolean digit = b >= '0' && b <= '9';
            String at = String.valueOf((char) b);
            if (b != ' ') {
                fault(at, "gpsmy".contains(at) ? 1 : 0);
            }
            if (b == ' ') {
                fault("s" + at, 2);
            } else {
                fault("s" + at, letter ? 0 : digit && b <= '7' ? 2 : 1);
            }
            if (b == ';') {
                read("s1" + at, 1);
            } else {
                fault("s1" + at, b == ' ' ? 3 : digit ? 1 : 2);
            }
        }
    }

    private void numbersTooLarge() {
        e.says(4, "a NUMBER above 99");
        // beyond 99, and such as come round to a number that may stand there, if digits are lost
        String[] large = {"99", "100", "101", "109", "110", "111", "200", "257", "1000", "1001", "10001", "65537", "2147483648", "4294967297", "8589934593",
            "18446744073709551617", "1" + "0".repeat(50), "1" + "0".repeat(49) + "1", "9".repeat(60)};
        for (String number : large) {
            inEachPlace(number);
        }
        fault("s" + "1".repeat(169), 1);
        fault("m" + "1".repeat(168) + ";", 1);
        fault("m1" + "0".repeat(167) + ";", 1);
        read("m10;", 1);
        read("m11;", 1);
    }

    private void numbersWithAZeroAhead() {
        e.says(4, "or with a 0 ahead of others");
        for (String number : new String[] {"00", "01", "02", "03", "001", "000", "010", "0012", "0".repeat(60), "0".repeat(60) + "1"}) {
            inEachPlace(number);
        }
        fault("m012;", 1);
        fault("m" + "0".repeat(168) + "1", 1);
        read("s0;", 1);
        read("y0;", 1);
        read("p0 0 0;", 1);
        e.run("told m10;", "now 0 = 10");
    }

    private void inEachPlace(String number) {
        fault("g" + number + " 1;", 1);
        fault("g1 " + number + ";", 3);
        fault("p" + number + " 0 0;", 1);
        fault("p0 " + number + " 0;", 3);
        fault("p0 0 " + number + ";", 5);
        fault("s" + number + ";", 1);
        fault("m " + number + ";", 2);
        fault("y" + number + ";", 1);
        // where no NUMBER can stand, too
        fault(number, 0);
        fault("s1 " + number + ";", 3);
    }

    private void theFirstFault() {
        e.says(4, "the place of the first byte of the first TOKEN that can't stand there");
        fault("x y", 0);
        fault("s1;  zz 9", 5);
        fault("g9 9;", 1);
        fault("g5 9 ?", 3);
        fault("p9 9 9;", 1);
        fault("p4 9 9;", 3);
        fault("s9 ?", 1);
        fault("s1 ? x", 3);
        fault("? s9;", 0);
        fault(" ".repeat(168) + "9?", 168);
        fault(" ".repeat(166) + "s1;?", 169);
        fault("s1;".repeat(8) + " ".repeat(145) + "s", 169);
    }

    private void endsTooEarly() {
        e.says(4, "the text's length, if it ends too early");
        String text = "g5 4;p4 3 7;s7;m12;y3;";
        int items = 0;
        for (int length = 1; length <= text.length(); length++) {
            String early = text.substring(0, length);
            if (early.endsWith(";")) {
                items++;
                read(early, items);
                read(early + " ", items);
            } else {
                fault(early, length);
                fault(early + " ", length + 1);
                fault(early + "   ", length + 3);
            }
        }
        fault("s1;s2" + " ".repeat(165), 170);
        fault("s1;s" + " ".repeat(166), 170);
    }

    private void readAnew() {
        e.says(4, "(Read anew: as told, nothing BROKEN, SEEN or to be UNDONE, IMAGES are gone.)");
        String[] rich = RICH.clone();
        rich[rich.length - 1] = "text ";
        e.run(Edge.with(rich, "window = 0", "now 0 = 12", "now 1 = 0", "now 2 = 0", "now 3 = 0", "now 4 = 0", "now 6 = 20",
            "count 0 = 5", "count 1 = 4", "count 2 = 0", "count 3 = 0", "count 4 = 0", "undo = STATE", "back 0 = STATE",
            "back 1 = STATE", "suspects = 2097151", "forget = 0", "pane 0 0 0 = 7", "pane 1 1 3 = 7", "lays 0 0 0 = BAD"));
        rich[rich.length - 1] = "text g2 2;p1 1 5;s2;s4;m3;y1;";
        e.run(Edge.with(rich, "window = 6", "now 0 = 3", "now 1 = 1", "now 2 = 0", "now 3 = 3", "count 3 = 0", "count 4 = 0",
            "undo = STATE", "back 0 = STATE", "back 1 = STATE", "pane 1 1 2 = 0", "pane 1 1 3 = 5", "sheet 0 1 = NONE",
            "moves 4 2 = 0", "undo = 0", "now 0 = 3", "now 1 = 1", "undo = STATE"));
        // six SEEN and ten to be UNDONE are gone, too, and what was done so early that it could not be UNDONE
        String[] full = {"told s1;s2;", "lays 0 4 3", "lays 1 4 2", "breaks 3 3", "moves 5 2", "breaks 0 0", "breaks 0 1", "breaks 0 2", "breaks 0 3",
            "breaks 1 0", "breaks 1 1", "breaks 1 2", "breaks 1 3", "breaks 2 0", "breaks 2 1", "saw 0 0 0 1", "saw 0 0 0 1", "saw 0 0 0 1", "saw 0 0 0 1",
            "saw 0 0 0 1", "saw 0 0 0 1"};
        e.run(Edge.with(full, "told s1;s2;", "now 0 = 12", "now 1 = 0", "now 2 = 0", "now 3 = 3", "pane 4 3 2 = 0", "undo = STATE",
            "suspects = 2097151", "saw 0 0 0 7 = 1", "lays 0 4 3 = 1", "breaks 0 0 = 0", "undo = 1", "undo = 0", "now 3 = 3", "undo = STATE"));
        // THE TRACE is none of what is told
        e.run("mark 0 0 0 = 7", "window = 0", "trace = 1");
    }

    private void read(String text, int items) {
        e.run("text " + text, "window = " + items, "count 5 = 0");
    }

    private void fault(String text, int place) {
        e.run("text " + text, "window = FAULT " + place);
    }
}
