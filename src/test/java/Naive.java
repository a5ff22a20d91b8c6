import java.util.ArrayList;
import java.util.Collections;
import java.util.HashMap;
import java.util.List;
import java.util.Map;
import java.util.TreeMap;
import java.util.TreeSet;
import java.util.regex.Matcher;
import java.util.regex.Pattern;

/** The document told once more, as slowly and plainly as can be, to compare the class with. */
public final class Naive {
    private static final int BAD = -1, STATE = -2, FULL = -3, NONE = -9, NO = -1000000;
    private static final Pattern TOKEN = Pattern.compile("[a-z]+|[0-9]+|;");

    /** What an IMAGE keeps but for what may be UNDONE; never changed once it is made. */
    private record Done(TreeSet<Integer> broken, TreeMap<Integer, Integer> laid, int mirror, int season) {
        Done copy() {
            return new Done(new TreeSet<>(broken), new TreeMap<>(laid), mirror, season);
        }
    }

    private record Image(Done done, List<Done> past) { }

    private record Sight(int tile, int hour, int colour) { }

    private static final class Fault extends Exception {
        final int place;

        Fault(int place) {
            this.place = place;
        }
    }

    private final StringBuilder text = new StringBuilder();
    private int wide = 5;
    private int high = 4;
    private Map<Integer, Integer> glass = new HashMap<>();
    private List<Integer> sheets = new ArrayList<>();
    private Done done = new Done(new TreeSet<>(), new TreeMap<>(), 12, 0);
    private List<Done> past = new ArrayList<>();
    private final List<Sight> seen = new ArrayList<>();
    private final Image[] images = new Image[2];
    private long trace;

    // ---- the window

    public int type(int c) {
        if (c < 0 || c > 255) return BAD;
        if (text.length() == 170) return FULL;
        text.append((char) c);
        return text.length();
    }

    public int clear() {
        int had = text.length();
        text.setLength(0);
        return had;
    }

    public int window() {
        try {
            return read();
        } catch (Fault fault) {
            return -10 - fault.place;
        }
    }

    private int read() throws Fault {
        List<String> tokens = new ArrayList<>();
        List<Integer> places = new ArrayList<>();
        Matcher m = TOKEN.matcher(text);
        int at = 0;
        while (at < text.length()) {
            if (text.charAt(at) == ' ') {
                at++;
                continue;
            }
            places.add(at);
            if (m.find(at) && m.start() == at) {
                tokens.add(m.group());
                at = m.end();
            } else {
                tokens.add("?");
                at++;
            }
        }
        tokens.add("end");
        places.add(text.length());
        int[] size = {5, 4};
        Map<Integer, Integer> newGlass = new HashMap<>();
        List<Integer> newSheets = new ArrayList<>();
        Integer mirror = null;
        Integer season = null;
        int items = 0;
        int i = 0;
        while (i < tokens.size() - 1) {
            int here = places.get(i);
            switch (tokens.get(i)) {
                case "g" -> {
                    if (items > 0) throw new Fault(here);
                    size[0] = number(tokens, places, i + 1, 1, 5);
                    size[1] = number(tokens, places, i + 2, 1, 4);
                    i += 3;
                }
                case "p" -> {
                    int x = number(tokens, places, i + 1, 0, size[0] - 1);
                    int y = number(tokens, places, i + 2, 0, size[1] - 1);
                    newGlass.put(4 * x + y, number(tokens, places, i + 3, 0, 7));
                    i += 4;
                }
                case "s" -> {
                    if (newSheets.size() == 8) throw new Fault(here);
                    newSheets.add(number(tokens, places, i + 1, 0, 7));
                    i += 2;
                }
                case "m" -> {
                    if (mirror != null) throw new Fault(here);
                    mirror = number(tokens, places, i + 1, 1, 12);
                    i += 2;
                }
                case "y" -> {
                    if (season != null) throw new Fault(here);
                    season = number(tokens, places, i + 1, 0, 3);
                    i += 2;
                }
                default -> throw new Fault(here);
            }
            if (!tokens.get(i).equals(";")) throw new Fault(places.get(i));
            i++;
            items++;
        }
        wide = size[0];
        high = size[1];
        glass = newGlass;
        sheets = newSheets;
        done = new Done(new TreeSet<>(), new TreeMap<>(), mirror == null ? 12 : mirror, season == null ? 0 : season);
        past = new ArrayList<>();
        seen.clear();
        images[0] = null;
        images[1] = null;
        text.setLength(0);
        return items;
    }

    private static int number(List<String> tokens, List<Integer> places, int i, int least, int most) throws Fault {
        String token = tokens.get(i);
        for (int n = least; n <= most; n++) {
            if (token.equals(Integer.toString(n))) return n;
        }
        throw new Fault(places.get(i));
    }

    public int pane(int x, int y, int what) {
        if (!isPane(x, y) || what < 0 || what > 3) return BAD;
        int n = 4 * x + y;
        return switch (what) {
            case 0 -> glassOf(n);
            case 1 -> done.broken.contains(n) ? 1 : 0;
            case 2 -> bitsBefore(n);
            default -> through(done, n);
        };
    }

    public int sheet(int s, int what) {
        if (s < 0 || s >= sheets.size() || what < 0 || what > 1) return BAD;
        return what == 0 ? sheets.get(s) : done.laid.getOrDefault(s, NONE);
    }

    // ---- what is done

    public int lays(int s, int x, int y) {
        if (s < 0 || s >= sheets.size() || !isPane(x, y)) return BAD;
        int n = 4 * x + y;
        if (done.laid.containsKey(s) || done.broken.contains(n) || Collections.frequency(done.laid.values(), n) == 3) return STATE;
        begin();
        done.laid.put(s, n);
        return through(done, n);
    }

    public int takes(int s) {
        if (s < 0 || s >= sheets.size()) return BAD;
        if (!done.laid.containsKey(s)) return STATE;
        begin();
        return done.laid.remove(s);
    }

    public int breaks(int x, int y) {
        if (!isPane(x, y)) return BAD;
        int n = 4 * x + y;
        if (done.broken.contains(n)) return STATE;
        begin();
        done.broken.add(n);
        int had = Collections.frequency(done.laid.values(), n);
        done.laid.values().removeIf(v -> v == n);
        return had;
    }

    public int mends(int x, int y) {
        if (!isPane(x, y)) return BAD;
        if (!done.broken.contains(4 * x + y)) return STATE;
        begin();
        done.broken.remove(4 * x + y);
        return glassOf(4 * x + y);
    }

    public int moves(int mirror, int season) {
        if (mirror < 1 || mirror > 12 || season < 0 || season > 3) return BAD;
        if (done.mirror == mirror && done.season == season) return STATE;
        begin();
        done = new Done(done.broken, done.laid, mirror, season);
        int lost = 0;
        for (int n : panes()) {
            if (tileOf(done, n, 0) < 0) lost++;
        }
        return lost;
    }

    public int undo() {
        if (past.isEmpty()) return STATE;
        done = past.remove(past.size() - 1);
        return past.size();
    }

    private void begin() {
        past.add(done.copy());
        if (past.size() > 10) past.remove(0);
    }

    public int now(int what) {
        switch (what) {
            case 0: return done.mirror;
            case 1: return done.season;
            case 2: return bits(done.broken);
            case 3: {
                int box = 0;
                for (int s = 0; s < sheets.size(); s++) {
                    if (!done.laid.containsKey(s)) box |= 1 << s;
                }
                return box;
            }
            case 4: return leads(-1, 0);
            case 5: return parts().size();
            case 6: return Collections.max(parts());
            default: return BAD;
        }
    }

    // ---- light

    public int light(int x, int y, int h) {
        if (!isTile(x, y) || h < 0 || h > 7) return BAD;
        return floor(done, h)[7 * x + y];
    }

    public int lit(int colour, int h, int what) {
        if (colour < 0 || colour > 7 || h < 0 || h > 7 || what < 0 || what > 1) return BAD;
        List<Integer> tiles = new ArrayList<>();
        int[] floor = floor(done, h);
        for (int tile = 0; tile < 84; tile++) {
            if (floor[tile] == colour) tiles.add(tile);
        }
        return what == 0 ? tiles.size() : tiles.isEmpty() ? NONE : tiles.get(0);
    }

    public int when(int x, int y, int colour) {
        if (!isTile(x, y) || colour < 0 || colour > 7) return BAD;
        for (int h = 0; h < 8; h++) {
            if (light(x, y, h) == colour) return h;
        }
        return NONE;
    }

    public int mix(int x, int y, int h, int colour, int what) {
        if (!isTile(x, y) || h < 0 || h > 7 || colour < 0 || colour > 7 || what < 0 || what > 2) return BAD;
        int former = -1;
        int latter = -1;
        for (int n : panes()) {
            if (tileOf(done, n, h) != 7 * x + y) continue;
            if (n / 4 + h < done.mirror) former = n;
            else latter = n;
        }
        List<int[]> ways = new ArrayList<>();
        lay(done.copy(), 0, former, latter, 7 * x + y, h, colour, ways);
        if (ways.isEmpty()) return NONE;
        ways.sort((a, b) -> a[0] != b[0] ? a[0] - b[0] : a[1] != b[1] ? a[1] - b[1] : a[2] - b[2]);
        return ways.get(0)[what];
    }

    private void lay(Done d, int s, int former, int latter, int tile, int h, int colour, List<int[]> ways) {
        if (s == sheets.size()) {
            if (floor(d, h)[tile] == colour) ways.add(new int[] {
                d.laid.size() - done.laid.size(), added(d, former), added(d, latter)});
            return;
        }
        lay(d, s + 1, former, latter, tile, h, colour, ways);
        if (d.laid.containsKey(s)) return;
        for (int n : new int[] {former, latter}) {
            if (n < 0 || d.broken.contains(n) || Collections.frequency(d.laid.values(), n) == 3) continue;
            d.laid.put(s, n);
            lay(d, s + 1, former, latter, tile, h, colour, ways);
            d.laid.remove(s);
        }
    }

    private int added(Done d, int n) {
        int bits = 0;
        for (int s = 0; s < sheets.size(); s++) {
            if (!done.laid.containsKey(s) && d.laid.getOrDefault(s, NONE) == n) bits |= 1 << s;
        }
        return bits;
    }

    public int child(int x, int y, int h, int colour, int k) {
        if (!isTile(x, y) || h < 0 || h > 7 || colour < 1 || colour > 7 || k < -1 || k > 7) return BAD;
        int[][] floors = new int[8][];
        for (int hour = 0; hour < 8; hour++) floors[hour] = floor(done, hour);
        List<Integer> best = new ArrayList<>();
        go(x, y, h, colour, floors, new ArrayList<>(), best);
        return k == -1 ? best.size() : k < best.size() ? best.get(k) : NONE;
    }

    private static void go(int x, int y, int h, int colour, int[][] floors, List<Integer> way, List<Integer> best) {
        if (h > 7 || !isTile(x, y) || (floors[h][7 * x + y] & colour) != colour) return;
        way.add(7 * x + y);
        if (way.size() > best.size()) {
            best.clear();
            best.addAll(way);
        }
        int[][] steps = {{-1, 0}, {0, -1}, {0, 0}, {0, 1}, {1, 0}};
        for (int[] step : steps) go(x + step[0], y + step[1], h + 1, colour, floors, way, best);
        way.remove(way.size() - 1);
    }

    public int paint(int what) {
        if (what < 0 || what > 1) return BAD;
        int best = -1;
        int fewest = 1000;
        for (int n : panes()) {
            for (int colour = 0; colour < 8; colour++) {
                if (colour == colourNow(n)) continue;
                int leads = leads(n, colour);
                if (leads < fewest) {
                    fewest = leads;
                    best = 8 * n + colour;
                }
            }
        }
        return what == 0 ? best : fewest;
    }

    public int hail(int x, int y, int h, int odd, int what) {
        if (!isTile(x, y) || h < 0 || h > 7 || odd < 0 || odd > 10 || what < 0 || what > 1) return BAD;
        List<Integer> here = new ArrayList<>();
        for (int n : panes()) {
            if (tileOf(done, n, h) == 7 * x + y && !done.broken.contains(n)) here.add(n);
        }
        long upper = 0;
        long lower = 1;
        for (int i = 0; i < here.size(); i++) lower *= 10;
        for (int set = 0; set < 1 << here.size(); set++) {
            Done d = done.copy();
            long weight = 1;
            for (int i = 0; i < here.size(); i++) {
                boolean hit = (set >> i & 1) != 0;
                weight *= hit ? odd : 10 - odd;
                if (hit) d = brokenToo(d, here.get(i));
            }
            if (floor(d, h)[7 * x + y] == 7) upper += weight;
        }
        long a = upper;
        long b = lower;
        while (a != 0) {
            long rest = b % a;
            b = a;
            a = rest;
        }
        return (int) ((what == 0 ? upper : lower) / b);
    }

    // ---- what was seen

    public int saw(int x, int y, int h, int colour) {
        if (!isTile(x, y) || h < 0 || h > 7 || colour < 0 || colour > 7) return BAD;
        if (seen.size() == 6) return FULL;
        seen.add(new Sight(7 * x + y, h, colour));
        return seen.size();
    }

    public int forget() {
        int had = seen.size();
        seen.clear();
        return had;
    }

    public int suspects() {
        int bits = allSo(done) ? 1 << 20 : 0;
        for (int n : panes()) {
            if (!done.broken.contains(n) && allSo(brokenToo(done, n))) bits |= 1 << n;
        }
        return bits;
    }

    public int glasses(int x, int y) {
        if (!isPane(x, y)) return BAD;
        int n = 4 * x + y;
        int was = glassOf(n);
        int bits = 0;
        Done whole = done.copy();
        whole.broken.remove(n);
        for (int colour = 0; colour < 8; colour++) {
            glass.put(n, colour);
            if (allSo(whole)) bits |= 1 << colour;
        }
        glass.put(n, was);
        return bits;
    }

    public int look() {
        int suspects = suspects();
        if (suspects == 0) return NONE;
        List<Done> worlds = new ArrayList<>();
        for (int n = 0; n <= 20; n++) {
            if ((suspects >> n & 1) != 0) worlds.add(n == 20 ? done : brokenToo(done, n));
        }
        int[][] counts = new int[84 * 8][8];
        for (Done world : worlds) {
            for (int h = 0; h < 8; h++) {
                int[] floor = floor(world, h);
                for (int tile = 0; tile < 84; tile++) counts[8 * tile + h][floor[tile]]++;
            }
        }
        int best = -1;
        int least = 1000;
        for (int place = 0; place < 84 * 8; place++) {
            int most = 0;
            for (int c : counts[place]) most = Math.max(most, c);
            if (most < least) {
                least = most;
                best = place;
            }
        }
        return best;
    }

    // ---- kinds, images

    public int mark(int kind, int x, int y) {
        if (kind < 0 || kind > 5 || !isPane(x, y)) return NO;
        int n = 4 * x + y;
        int pane = through(done, n);
        int count = Collections.frequency(done.laid.values(), n);
        trace += new int[] {1, 11, 101, 1011, 10101, 100001}[kind];
        return new int[] {pane, pane + count, pane - y, 2 * (pane + count), pane - y + n, pane + done.mirror}[kind];
    }

    public int keep(int image) {
        if (image < 0 || image > 1) return BAD;
        images[image] = new Image(done.copy(), copies(past));
        return done.broken.size();
    }

    public int back(int image) {
        if (image < 0 || image > 1) return BAD;
        if (images[image] == null) return STATE;
        done = images[image].done.copy();
        past = copies(images[image].past);
        return done.broken.size();
    }

    public int count(int what) {
        if (what < 0 || what > 5) return BAD;
        return new int[] {wide, high, sheets.size(), seen.size(), past.size(), text.length()}[what];
    }

    public long trace() {
        return trace;
    }

    // ---- what the calls share

    private boolean isPane(int x, int y) {
        return x >= 0 && x < wide && y >= 0 && y < high;
    }

    private static boolean isTile(int x, int y) {
        return x >= 0 && x < 12 && y >= 0 && y < 7;
    }

    private List<Integer> panes() {
        List<Integer> all = new ArrayList<>();
        for (int x = 0; x < wide; x++) {
            for (int y = 0; y < high; y++) all.add(4 * x + y);
        }
        return all;
    }

    private static int bits(Iterable<Integer> numbers) {
        int bits = 0;
        for (int n : numbers) bits |= 1 << n;
        return bits;
    }

    private int bitsBefore(int n) {
        int bits = 0;
        for (Map.Entry<Integer, Integer> e : done.laid.entrySet()) {
            if (e.getValue() == n) bits |= 1 << e.getKey();
        }
        return bits;
    }

    private int glassOf(int n) {
        return glass.getOrDefault(n, 7);
    }

    private int colourNow(int n) {
        return done.broken.contains(n) ? 7 : glassOf(n);
    }

    private int through(Done d, int n) {
        int through = d.broken.contains(n) ? 7 : glassOf(n);
        for (Map.Entry<Integer, Integer> e : d.laid.entrySet()) {
            if (e.getValue() == n) through &= sheets.get(e.getKey());
        }
        return through;
    }

    private static Done brokenToo(Done d, int n) {
        Done then = d.copy();
        then.broken.add(n);
        then.laid.values().removeIf(v -> v == n);
        return then;
    }

    /** Where the light of a PANE falls; -1: it is lost. */
    private static int tileOf(Done d, int n, int h) {
        int column = n / 4 + h;
        int row = n % 4 + d.season;
        if (column >= d.mirror) column = 2 * d.mirror - 1 - column;
        return column < 0 ? -1 : 7 * column + row;
    }

    private int[] floor(Done d, int h) {
        int[] floor = new int[84];
        for (int n : panes()) {
            int tile = tileOf(d, n, h);
            if (tile >= 0) floor[tile] |= through(d, n);
        }
        return floor;
    }

    private boolean allSo(Done d) {
        for (Sight s : seen) {
            if (floor(d, s.hour)[s.tile] != s.colour) return false;
        }
        return true;
    }

    private int leads(int painted, int colour) {
        int leads = 0;
        for (int a : panes()) {
            for (int b : panes()) {
                boolean beside = Math.abs(a / 4 - b / 4) + Math.abs(a % 4 - b % 4) == 1;
                int ca = a == painted ? colour : colourNow(a);
                int cb = b == painted ? colour : colourNow(b);
                if (a < b && beside && ca != cb) leads++;
            }
        }
        return leads;
    }

    private List<Integer> parts() {
        List<Integer> left = panes();
        List<Integer> sizes = new ArrayList<>();
        while (!left.isEmpty()) {
            List<Integer> part = new ArrayList<>();
            part.add(left.remove(0));
            for (int i = 0; i < part.size(); i++) {
                int a = part.get(i);
                for (int b : new ArrayList<>(left)) {
                    boolean beside = Math.abs(a / 4 - b / 4) + Math.abs(a % 4 - b % 4) == 1;
                    if (beside && colourNow(a) == colourNow(b)) {
                        part.add(b);
                        left.remove((Integer) b);
                    }
                }
            }
            sizes.add(part.size());
        }
        return sizes;
    }

    private static List<Done> copies(List<Done> all) {
        List<Done> copies = new ArrayList<>();
        for (Done d : all) copies.add(d.copy());
        return copies;
    }
}
