import java.util.Arrays;

/** Light through a church window; ../shared/DOC.md says what each call promises. */
public final class PaneLight {
    public static final int BAD = -1, STATE = -2, FULL = -3, NONE = -9;
    public static final int NO = -1000000;

    private static final int MOST_WIDE = 5, MOST_HIGH = 4, PANES = MOST_WIDE * MOST_HIGH;
    private static final int MOST_SHEETS = 8, MOST_BEFORE = 3;
    private static final int COLUMNS = 12, ROWS = 7, TILES = COLUMNS * ROWS, HOURS = 8;
    private static final int COLOURS = 8, CLEAR = 7;
    private static final int NO_MIRROR = 12, MOST_SEASON = 3;
    private static final int IMAGES = 2, MOST_KIND = 5, MOST_ODD = 10;
    private static final int NO_PANE = -1;

    private final Reader reader = new Reader();
    private final Scene scene = new Scene();
    private final Mixture mixture = new Mixture();
    private final Walk walk = new Walk();
    private final Witness witness = new Witness();
    private final Story[] images = new Story[IMAGES];
    private Plan draft = new Plan();
    /** Which IMAGES were kept, as bits. */
    private int kept;
    private long traced;

    public PaneLight() {
        for (int i = 0; i < IMAGES; i++) {
            images[i] = new Story();
        }
        scene.story.restart(scene.plan);
    }

    // ---- the window

    public int type(int c) {
        if (c < 0 || c > 255) {
            return BAD;
        }
        return reader.add(c) ? reader.length : FULL;
    }

    public int clear() {
        int had = reader.length;
        reader.length = 0;
        return had;
    }

    public int window() {
        int items = reader.readInto(draft);
        if (items < 0) {
            return items;
        }
        Plan former = scene.plan;
        scene.plan = draft;
        draft = former;
        scene.story.restart(scene.plan);
        kept = 0;
        witness.seen = 0;
        reader.length = 0;
        return items;
    }

    public int pane(int x, int y, int what) {
        int pane = scene.paneAt(x, y);
        if (pane == NO_PANE) {
            return BAD;
        }
        switch (what) {
            case 0: return scene.plan.glass[pane];
            case 1: return scene.isBroken(pane) ? 1 : 0;
            case 2: return scene.story.present.before[pane];
            case 3: return scene.letsThrough(pane);
            default: return BAD;
        }
    }

    public int sheet(int s, int what) {
        if (!isSheet(s)) {
            return BAD;
        }
        switch (what) {
            case 0: return scene.plan.pile[1 << s];
            case 1: return scene.paneBehind(s);
            default: return BAD;
        }
    }

    // ---- what is done

    public int lays(int s, int x, int y) {
        int pane = scene.paneAt(x, y);
        if (!isSheet(s) || pane == NO_PANE) {
            return BAD;
        }
        if (scene.paneBehind(s) != NONE || scene.roomBefore(pane) == 0) {
            return STATE;
        }
        scene.story.advance().before[pane] |= 1 << s;
        return scene.letsThrough(pane);
    }

    public int takes(int s) {
        if (!isSheet(s)) {
            return BAD;
        }
        int pane = scene.paneBehind(s);
        if (pane == NONE) {
            return STATE;
        }
        scene.story.advance().before[pane] &= ~(1 << s);
        return pane;
    }

    public int breaks(int x, int y) {
        int pane = scene.paneAt(x, y);
        if (pane == NO_PANE) {
            return BAD;
        }
        if (scene.isBroken(pane)) {
            return STATE;
        }
        Moment present = scene.story.advance();
        int freed = Integer.bitCount(present.before[pane]);
        present.before[pane] = 0;
        present.broken |= 1 << pane;
        return freed;
    }

    public int mends(int x, int y) {
        int pane = scene.paneAt(x, y);
        if (pane == NO_PANE) {
            return BAD;
        }
        if (!scene.isBroken(pane)) {
            return STATE;
        }
        scene.story.advance().broken &= ~(1 << pane);
        return scene.plan.glass[pane];
    }

    public int moves(int mirror, int season) {
        if (mirror < 1 || mirror > NO_MIRROR || season < 0 || season > MOST_SEASON) {
            return BAD;
        }
        if (scene.story.present.mirror == mirror && scene.story.present.season == season) {
            return STATE;
        }
        Moment present = scene.story.advance();
        present.mirror = mirror;
        present.season = season;
        return scene.lostAtFirstHour();
    }

    public int undo() {
        if (scene.story.past == 0) {
            return STATE;
        }
        scene.story.retreat();
        return scene.story.past;
    }

    public int now(int what) {
        switch (what) {
            case 0: return scene.story.present.mirror;
            case 1: return scene.story.present.season;
            case 2: return scene.story.present.broken;
            case 3: return scene.box();
            case 4: return Leading.leads(scene);
            case 5: return Leading.parts(scene);
            case 6: return Leading.greatestPart(scene);
            default: return BAD;
        }
    }

    // ---- light

    public int light(int x, int y, int h) {
        if (!isTile(x, y) || !isHour(h)) {
            return BAD;
        }
        return scene.lightOf(numberOf(x, y), h);
    }

    public int lit(int colour, int h, int what) {
        if (!isColour(colour) || !isHour(h) || what < 0 || what > 1) {
            return BAD;
        }
        int first = NONE;
        int tiles = 0;
        for (int tile = TILES - 1; tile >= 0; tile--) {
            if (scene.lightOf(tile, h) == colour) {
                first = tile;
                tiles++;
            }
        }
        return what == 0 ? tiles : first;
    }

    public int when(int x, int y, int colour) {
        if (!isTile(x, y) || !isColour(colour)) {
            return BAD;
        }
        for (int hour = 0; hour < HOURS; hour++) {
            if (scene.lightOf(numberOf(x, y), hour) == colour) {
                return hour;
            }
        }
        return NONE;
    }

    public int mix(int x, int y, int h, int colour, int what) {
        if (!isTile(x, y) || !isHour(h) || !isColour(colour) || what < 0 || what > 2) {
            return BAD;
        }
        mixture.seek(scene, numberOf(x, y), h, colour);
        if (!mixture.found) {
            return NONE;
        }
        switch (what) {
            case 0: return mixture.sheets;
            case 1: return mixture.former;
            default: return mixture.latter;
        }
    }

    public int child(int x, int y, int h, int colour, int k) {
        if (!isTile(x, y) || !isHour(h) || !isColour(colour) || colour == 0) {
            return BAD;
        }
        if (k < -1 || k >= HOURS) {
            return BAD;
        }
        int hours = walk.hoursFrom(scene, numberOf(x, y), h, colour);
        if (k == -1) {
            return hours;
        }
        return k < hours ? walk.tileAfter(numberOf(x, y), h, k) : NONE;
    }

    public int paint(int what) {
        if (what < 0 || what > 1) {
            return BAD;
        }
        int way = Leading.bestPaint(scene);
        return what == 0 ? way : Leading.leadsPainted(scene, way / COLOURS, way % COLOURS);
    }

    public int hail(int x, int y, int h, int odd, int what) {
        if (!isTile(x, y) || !isHour(h) || odd < 0 || odd > MOST_ODD || what < 0 || what > 1) {
            return BAD;
        }
        int upper = clearOfHundred(numberOf(x, y), h, odd);
        int divisor = greatestDivisor(100, upper);
        return (what == 0 ? upper : 100) / divisor;
    }

    // ---- what was seen

    public int saw(int x, int y, int h, int colour) {
        if (!isTile(x, y) || !isHour(h) || !isColour(colour)) {
            return BAD;
        }
        return witness.add(numberOf(x, y) * HOURS + h, colour) ? witness.seen : FULL;
    }

    public int forget() {
        int had = witness.seen;
        witness.seen = 0;
        return had;
    }

    public int suspects() {
        return witness.suspected(scene);
    }

    public int glasses(int x, int y) {
        int pane = scene.paneAt(x, y);
        return pane == NO_PANE ? BAD : witness.glassesOf(scene, pane);
    }

    public int look() {
        return witness.bestPlace(scene, witness.suspected(scene));
    }

    // ---- kinds, images

    public int mark(int kind, int x, int y) {
        int pane = scene.paneAt(x, y);
        if (kind < 0 || kind > MOST_KIND || pane == NO_PANE) {
            return NO;
        }
        switch (kind) {
            case 0: return asPane(pane);
            case 1: return asSaint(pane);
            case 2: return asDevil(pane);
            case 3: return asHalo(pane);
            case 4: return asTail(pane);
            default: return asLead(pane);
        }
    }

    public int keep(int image) {
        if (image < 0 || image >= IMAGES) {
            return BAD;
        }
        images[image].become(scene.story);
        kept |= 1 << image;
        return Integer.bitCount(scene.story.present.broken);
    }

    public int back(int image) {
        if (image < 0 || image >= IMAGES) {
            return BAD;
        }
        if ((kept >> image & 1) == 0) {
            return STATE;
        }
        scene.story.become(images[image]);
        return Integer.bitCount(scene.story.present.broken);
    }

    public int count(int what) {
        switch (what) {
            case 0: return scene.plan.wide;
            case 1: return scene.plan.high;
            case 2: return scene.plan.sheets;
            case 3: return witness.seen;
            case 4: return scene.story.past;
            case 5: return reader.length;
            default: return BAD;
        }
    }

    public long trace() {
        return traced;
    }

    // ---- what numbers may be

    private boolean isSheet(int s) {
        return s >= 0 && s < scene.plan.sheets;
    }

    private static boolean isTile(int x, int y) {
        return x >= 0 && x < COLUMNS && y >= 0 && y < ROWS;
    }

    private static boolean isHour(int h) {
        return h >= 0 && h < HOURS;
    }

    private static boolean isColour(int colour) {
        return colour >= 0 && colour < COLOURS;
    }

    private static int numberOf(int x, int y) {
        return ROWS * x + y;
    }

    // ---- what KINDS answer, each asking the one above it

    private int asPane(int pane) {
        traced += 1;
        return scene.letsThrough(pane);
    }

    private int asSaint(int pane) {
        traced += 10;
        return asPane(pane) + Integer.bitCount(scene.story.present.before[pane]);
    }

    private int asDevil(int pane) {
        traced += 100;
        return asPane(pane) - pane % MOST_HIGH;
    }

    private int asHalo(int pane) {
        traced += 1000;
        return asSaint(pane) * 2;
    }

    private int asTail(int pane) {
        traced += 10000;
        return asDevil(pane) + pane;
    }

    private int asLead(int pane) {
        traced += 100000;
        return asPane(pane) + scene.story.present.mirror;
    }

    // ---- the odds of hail

    /** Of 100 hails: a broken PANE alone makes LIGHT clear, so LIGHT stays unclear only if every PANE here stays whole. */
    private int clearOfHundred(int tile, int hour, int odd) {
        if (scene.lightOf(tile, hour) == CLEAR) {
            return 100;
        }
        int unclear = 100;
        if (scene.paneByItself(tile, hour) != NO_PANE) {
            unclear = unclear * (MOST_ODD - odd) / 10;
        }
        if (scene.paneByMirror(tile, hour) != NO_PANE) {
            unclear = unclear * (MOST_ODD - odd) / 10;
        }
        return 100 - unclear;
    }

    /** Of a number from 1 to 100 and one from 0 to 100. */
    private static int greatestDivisor(int a, int b) {
        for (int divisor = 100; divisor > 1; divisor--) {
            if (a % divisor == 0 && b % divisor == 0) {
                return divisor;
            }
        }
        return 1;
    }

    /** What THE TEXT tells: the window, its SHEETS, and where MIRROR and SEASON begin. */
    private static final class Plan {
        final int[] glass = new int[PANES];
        /** What each pile of SHEETS (bits) lets through, so that no question goes through SHEETS one by one. */
        final int[] pile = new int[1 << MOST_SHEETS];
        int wide;
        int high;
        int sheets;
        int mirror;
        int season;

        Plan() {
            restart();
        }

        void restart() {
            wide = MOST_WIDE;
            high = MOST_HIGH;
            Arrays.fill(glass, CLEAR);
            pile[0] = CLEAR;
            sheets = 0;
            mirror = NO_MIRROR;
            season = 0;
        }

        /** Only while there are fewer than MOST_SHEETS. */
        void addSheet(int colour) {
            int bit = 1 << sheets;
            for (int others = 0; others < bit; others++) {
                pile[bit + others] = pile[others] & colour;
            }
            sheets++;
        }
    }

    /** THE TEXT, and how it is read TOKEN by TOKEN. */
    private static final class Reader {
        private static final int MOST_TEXT = 170, MOST_NUMBER = 99;
        private static final int END = 0, LETTER = 1, NUMBER = 2, STOP = 3, WRONG = 4;

        final int[] text = new int[MOST_TEXT];
        int length;
        /** The place behind the TOKEN, the TOKEN's own, which of the above it is, and its letter or number. */
        int next;
        int start;
        int sort;
        int value;
        boolean mirrorTold;
        boolean seasonTold;

        boolean add(int c) {
            if (length >= MOST_TEXT) {
                return false;
            }
            text[length] = c;
            length++;
            return true;
        }

        /** How many ITEMS, or -10 less FAULT. */
        int readInto(Plan plan) {
            plan.restart();
            mirrorTold = false;
            seasonTold = false;
            next = 0;
            step();
            int items = 0;
            for (; items < length && sort != END; items++) {
                if (!item(plan, items == 0)) {
                    return -10 - start;
                }
                step();
            }
            return items;
        }

        boolean item(Plan plan, boolean first) {
            if (sort != LETTER) {
                return false;
            }
            switch (value) {
                case 'g': return first && size(plan);
                case 'p': return glass(plan);
                case 's': return plan.sheets < MOST_SHEETS && sheetColour(plan);
                case 'm': return !mirrorTold && mirror(plan);
                case 'y': return !seasonTold && season(plan);
                default: return false;
            }
        }

        boolean size(Plan plan) {
            if (!number(1, MOST_WIDE)) {
                return false;
            }
            plan.wide = value;
            if (!number(1, MOST_HIGH)) {
                return false;
            }
            plan.high = value;
            return stop();
        }

        boolean glass(Plan plan) {
            if (!number(0, plan.wide - 1)) {
                return false;
            }
            int x = value;
            if (!number(0, plan.high - 1)) {
                return false;
            }
            int pane = MOST_HIGH * x + value;
            if (!number(0, COLOURS - 1)) {
                return false;
            }
            plan.glass[pane] = value;
            return stop();
        }

        boolean sheetColour(Plan plan) {
            if (!number(0, COLOURS - 1)) {
                return false;
            }
            plan.addSheet(value);
            return stop();
        }

        boolean mirror(Plan plan) {
            if (!number(1, NO_MIRROR)) {
                return false;
            }
            plan.mirror = value;
            mirrorTold = true;
            return stop();
        }

        boolean season(Plan plan) {
            if (!number(0, MOST_SEASON)) {
                return false;
            }
            plan.season = value;
            seasonTold = true;
            return stop();
        }

        boolean number(int least, int most) {
            step();
            return sort == NUMBER && value >= least && value <= most;
        }

        boolean stop() {
            step();
            return sort == STOP;
        }

        void step() {
            while (next < length && text[next] == ' ') {
                next++;
            }
            start = next;
            if (next >= length) {
                sort = END;
            } else if (text[next] >= 'a' && text[next] <= 'z') {
                letters();
            } else if (text[next] >= '0' && text[next] <= '9') {
                digits();
            } else {
                sort = text[next] == ';' ? STOP : WRONG;
                next++;
            }
        }

        /** No ITEM begins with more than one letter, so more are WRONG wherever they stand. */
        void letters() {
            value = text[start];
            while (next < length && text[next] >= 'a' && text[next] <= 'z') {
                next++;
            }
            sort = next - start == 1 ? LETTER : WRONG;
        }

        void digits() {
            value = 0;
            while (next < length && text[next] >= '0' && text[next] <= '9') {
                // Once it is beyond MOST_NUMBER it stays so, however many digits come.
                value = value > MOST_NUMBER ? value : value * 10 + text[next] - '0';
                next++;
            }
            boolean zeroAhead = text[start] == '0' && next - start > 1;
            sort = value > MOST_NUMBER || zeroAhead ? WRONG : NUMBER;
        }
    }

    /** What deeds have made of the window at one time. */
    private static final class Moment {
        /** SHEETS (bits) before each PANE; a broken PANE has none. */
        final int[] before = new int[PANES];
        int broken;
        int mirror;
        int season;

        void become(Moment other) {
            System.arraycopy(other.before, 0, before, 0, PANES);
            broken = other.broken;
            mirror = other.mirror;
            season = other.season;
        }
    }

    /** NOW, and the Moments ahead of it that may come again. */
    private static final class Story {
        private static final int KNOWN = 10;

        final Moment[] moments = new Moment[KNOWN + 1];
        /** How many may be UNDONE; the Moment at this place is NOW. */
        int past;
        Moment present;

        Story() {
            for (int i = 0; i <= KNOWN; i++) {
                moments[i] = new Moment();
            }
            present = moments[0];
        }

        void restart(Plan plan) {
            past = 0;
            present = moments[0];
            Arrays.fill(present.before, 0);
            present.broken = 0;
            present.mirror = plan.mirror;
            present.season = plan.season;
        }

        /** A new NOW, like the former one until the caller changes it. */
        Moment advance() {
            if (past < KNOWN) {
                past++;
            } else {
                loseOldest();
            }
            present = moments[past];
            present.become(moments[past - 1]);
            return present;
        }

        /** Only while there is something to be UNDONE. */
        void retreat() {
            past--;
            present = moments[past];
        }

        void loseOldest() {
            Moment oldest = moments[0];
            for (int i = 0; i < KNOWN; i++) {
                moments[i] = moments[i + 1];
            }
            moments[KNOWN] = oldest;
        }

        void become(Story other) {
            past = other.past;
            for (int i = 0; i <= past; i++) {
                moments[i].become(other.moments[i]);
            }
            present = moments[past];
        }
    }

    /** The window as it is told and as it is NOW, and where its light falls. */
    private static final class Scene {
        final Story story = new Story();
        Plan plan = new Plan();

        int paneAt(int x, int y) {
            boolean inside = x >= 0 && x < plan.wide && y >= 0 && y < plan.high;
            return inside ? MOST_HIGH * x + y : NO_PANE;
        }

        boolean hasPane(int pane) {
            return paneAt(pane / MOST_HIGH, pane % MOST_HIGH) != NO_PANE;
        }

        boolean isBroken(int pane) {
            return (story.present.broken >> pane & 1) != 0;
        }

        int colourNow(int pane) {
            return isBroken(pane) ? CLEAR : plan.glass[pane];
        }

        /** Nothing (0), if it is NO_PANE. */
        int letsThrough(int pane) {
            return pane == NO_PANE ? 0 : colourNow(pane) & plan.pile[story.present.before[pane]];
        }

        /** The PANE that a SHEET is before, NONE if it is in the BOX. */
        int paneBehind(int s) {
            for (int pane = 0; pane < PANES; pane++) {
                if ((story.present.before[pane] >> s & 1) != 0) {
                    return pane;
                }
            }
            return NONE;
        }

        int box() {
            int laid = 0;
            for (int pane = 0; pane < PANES; pane++) {
                laid |= story.present.before[pane];
            }
            return ((1 << plan.sheets) - 1) & ~laid;
        }

        /** How many SHEETS more may be laid before a PANE, or before NO_PANE. */
        int roomBefore(int pane) {
            if (pane == NO_PANE || isBroken(pane)) {
                return 0;
            }
            return MOST_BEFORE - Integer.bitCount(story.present.before[pane]);
        }

        int lostAtFirstHour() {
            return plan.high * Math.max(0, plan.wide - 2 * story.present.mirror);
        }

        /** No light comes to the columns from MIRROR on, as it throws all of that back. */
        int paneByItself(int tile, int hour) {
            int column = tile / ROWS;
            if (column >= story.present.mirror) {
                return NO_PANE;
            }
            return paneAt(column - hour, tile % ROWS - story.present.season);
        }

        int paneByMirror(int tile, int hour) {
            int column = tile / ROWS;
            if (column >= story.present.mirror) {
                return NO_PANE;
            }
            int behindMirror = 2 * story.present.mirror - 1 - column;
            return paneAt(behindMirror - hour, tile % ROWS - story.present.season);
        }

        int lightOf(int tile, int hour) {
            return letsThrough(paneByItself(tile, hour)) | letsThrough(paneByMirror(tile, hour));
        }

        /** LIGHT, were it so that one PANE lets something else through (NO_PANE: nothing, as it does). */
        int lightIf(int tile, int hour, int pane, int through) {
            int former = paneByItself(tile, hour);
            int latter = paneByMirror(tile, hour);
            return (former == pane ? through : letsThrough(former)) | (latter == pane ? through : letsThrough(latter));
        }
    }

    /** LEADS between unlike PANES, and PARTS of alike ones. */
    private static final class Leading {
        private static final int TOP_ROW = 0x11111, LAST_ROW = 0x88888;

        static int leads(Scene scene) {
            int twice = 0;
            for (int pane = 0; pane < PANES; pane++) {
                if (scene.hasPane(pane)) {
                    twice += unlikeBeside(scene, pane, scene.colourNow(pane));
                }
            }
            return twice / 2;
        }

        static int leadsPainted(Scene scene, int pane, int colour) {
            return leads(scene) + addedBy(scene, pane, colour);
        }

        /** The best way to paint one PANE anew: 8 times the PANE and the COLOUR. */
        static int bestPaint(Scene scene) {
            int best = NONE;
            int fewest = PANES;
            for (int way = 0; way < PANES * COLOURS; way++) {
                int pane = way / COLOURS;
                int colour = way % COLOURS;
                if (!scene.hasPane(pane) || scene.colourNow(pane) == colour) {
                    continue;
                }
                int added = addedBy(scene, pane, colour);
                if (added < fewest) {
                    fewest = added;
                    best = way;
                }
            }
            return best;
        }

        /** LEADS that another COLOUR of one PANE adds (below 0, if it takes some away). */
        static int addedBy(Scene scene, int pane, int colour) {
            return unlikeBeside(scene, pane, colour) - unlikeBeside(scene, pane, scene.colourNow(pane));
        }

        static int unlikeBeside(Scene scene, int pane, int colour) {
            int x = pane / MOST_HIGH;
            int y = pane % MOST_HIGH;
            return unlike(scene, scene.paneAt(x - 1, y), colour) + unlike(scene, scene.paneAt(x + 1, y), colour)
                + unlike(scene, scene.paneAt(x, y - 1), colour) + unlike(scene, scene.paneAt(x, y + 1), colour);
        }

        static int unlike(Scene scene, int pane, int colour) {
            return pane != NO_PANE && scene.colourNow(pane) != colour ? 1 : 0;
        }

        /** Each PART is counted at its lowest PANE alone. */
        static int parts(Scene scene) {
            int parts = 0;
            for (int pane = 0; pane < PANES; pane++) {
                if (scene.hasPane(pane) && (partOf(scene, pane) & ((1 << pane) - 1)) == 0) {
                    parts++;
                }
            }
            return parts;
        }

        static int greatestPart(Scene scene) {
            int greatest = 0;
            for (int pane = 0; pane < PANES; pane++) {
                if (scene.hasPane(pane)) {
                    greatest = Math.max(greatest, Integer.bitCount(partOf(scene, pane)));
                }
            }
            return greatest;
        }

        /** PANES (bits) of the PART that a PANE belongs to. */
        static int partOf(Scene scene, int pane) {
            int alike = panesOf(scene, scene.colourNow(pane));
            int part = 1 << pane;
            for (int i = 1; i < PANES; i++) {
                part = (part | beside(part)) & alike;
            }
            return part;
        }

        static int panesOf(Scene scene, int colour) {
            int panes = 0;
            for (int pane = 0; pane < PANES; pane++) {
                if (scene.hasPane(pane) && scene.colourNow(pane) == colour) {
                    panes |= 1 << pane;
                }
            }
            return panes;
        }

        static int beside(int panes) {
            int beforeAndBehind = (panes << MOST_HIGH) | (panes >> MOST_HIGH);
            int aboveAndBelow = ((panes & ~LAST_ROW) << 1) | ((panes & ~TOP_ROW) >> 1);
            return beforeAndBehind | aboveAndBelow;
        }
    }

    /** The way to lay SHEETS that MIX asks for. */
    private static final class Mixture {
        boolean found;
        int sheets;
        int former;
        int latter;

        /** Ways come by rising bits before the former PANE, then the latter: of as few SHEETS, the first stays. */
        void seek(Scene scene, int tile, int hour, int colour) {
            int pane = scene.paneByItself(tile, hour);
            int other = scene.paneByMirror(tile, hour);
            int room = scene.roomBefore(pane);
            int box = scene.box();
            found = false;
            for (int bits = 0; bits <= box; bits++) {
                if ((bits & ~box) == 0 && Integer.bitCount(bits) <= room) {
                    int through = scene.letsThrough(pane) & scene.plan.pile[bits];
                    seekLatter(scene, other, bits, through, colour);
                }
            }
        }

        void seekLatter(Scene scene, int pane, int formerBits, int formerThrough, int colour) {
            int rest = scene.box() & ~formerBits;
            int room = scene.roomBefore(pane);
            int ownThrough = scene.letsThrough(pane);
            int bits = 0;
            for (int left = 1 << Integer.bitCount(rest); left > 0; left--) {
                int through = formerThrough | (ownThrough & scene.plan.pile[bits]);
                if (through == colour && Integer.bitCount(bits) <= room) {
                    offer(formerBits, bits);
                }
                // The next greater bits among those of rest: the borrow runs over all others.
                bits = (bits - rest) & rest;
            }
        }

        void offer(int formerBits, int latterBits) {
            int needed = Integer.bitCount(formerBits) + Integer.bitCount(latterBits);
            if (!found || needed < sheets) {
                found = true;
                sheets = needed;
                former = formerBits;
                latter = latterBits;
            }
        }
    }

    /** How a CHILD walks in light of a COLOUR. */
    private static final class Walk {
        /** For how many HOURS it can stand from an HOUR and TILE on; behind the last HOUR it can't (0). */
        final int[] stands = new int[(HOURS + 1) * TILES];

        int hoursFrom(Scene scene, int tile, int hour, int colour) {
            for (int h = HOURS - 1; h >= hour; h--) {
                for (int t = 0; t < TILES; t++) {
                    boolean inLight = (scene.lightOf(t, h) & colour) == colour;
                    stands[h * TILES + t] = inLight ? 1 + stands[(h + 1) * TILES + onward(t, h)] : 0;
                }
            }
            return stands[hour * TILES + tile];
        }

        int tileAfter(int tile, int hour, int steps) {
            int at = tile;
            for (int i = 0; i < steps; i++) {
                at = onward(at, hour + i);
            }
            return at;
        }

        /** The TILE for the next HOUR from which it can stand longest, of like ones the lowest. */
        int onward(int tile, int hour) {
            int row = tile % ROWS;
            int best = tile;
            if (tile >= ROWS) {
                best = better(best, tile - ROWS, hour + 1);
            }
            if (row > 0) {
                best = better(best, tile - 1, hour + 1);
            }
            if (row < ROWS - 1) {
                best = better(best, tile + 1, hour + 1);
            }
            if (tile + ROWS < TILES) {
                best = better(best, tile + ROWS, hour + 1);
            }
            return best;
        }

        int better(int one, int other, int hour) {
            int oneStands = stands[hour * TILES + one];
            int otherStands = stands[hour * TILES + other];
            if (oneStands == otherStands) {
                return Math.min(one, other);
            }
            return oneStands > otherStands ? one : other;
        }
    }

    /** What was SEEN, and what can be told by it. */
    private static final class Witness {
        private static final int MOST_SEEN = 6;

        /** 8 times the TILE and the HOUR. */
        final int[] places = new int[MOST_SEEN];
        final int[] colours = new int[MOST_SEEN];
        int seen;

        boolean add(int place, int colour) {
            if (seen >= MOST_SEEN) {
                return false;
            }
            places[seen] = place;
            colours[seen] = colour;
            seen++;
            return true;
        }

        /** Whether all that was SEEN is so, were it so that one PANE lets something else through. */
        boolean agrees(Scene scene, int pane, int through) {
            for (int i = 0; i < seen; i++) {
                if (scene.lightIf(places[i] / HOURS, places[i] % HOURS, pane, through) != colours[i]) {
                    return false;
                }
            }
            return true;
        }

        int suspected(Scene scene) {
            int bits = agrees(scene, NO_PANE, 0) ? 1 << PANES : 0;
            for (int pane = 0; pane < PANES; pane++) {
                if (scene.hasPane(pane) && !scene.isBroken(pane) && agrees(scene, pane, CLEAR)) {
                    bits |= 1 << pane;
                }
            }
            return bits;
        }

        int glassesOf(Scene scene, int pane) {
            int sheetsThrough = scene.plan.pile[scene.story.present.before[pane]];
            int bits = 0;
            for (int colour = 0; colour < COLOURS; colour++) {
                if (agrees(scene, pane, colour & sheetsThrough)) {
                    bits |= 1 << colour;
                }
            }
            return bits;
        }

        int bestPlace(Scene scene, int suspected) {
            if (suspected == 0) {
                return NONE;
            }
            int best = NONE;
            int least = PANES + 2;
            for (int place = 0; place < TILES * HOURS; place++) {
                int alike = mostAlike(scene, suspected, place / HOURS, place % HOURS);
                if (alike < least) {
                    least = alike;
                    best = place;
                }
            }
            return best;
        }

        /** A broken PANE makes LIGHT clear where it falls and leaves it as it is elsewhere: two groups at most. */
        int mostAlike(Scene scene, int suspected, int tile, int hour) {
            int all = Integer.bitCount(suspected);
            if (scene.lightOf(tile, hour) == CLEAR) {
                return all;
            }
            int clear = bitOf(suspected, scene.paneByItself(tile, hour)) + bitOf(suspected, scene.paneByMirror(tile, hour));
            return Math.max(clear, all - clear);
        }

        int bitOf(int suspected, int pane) {
            return pane == NO_PANE ? 0 : suspected >> pane & 1;
        }
    }
}
