import java.io.IOException;
import java.nio.file.Files;
import java.nio.file.Path;
import java.util.ArrayList;
import java.util.Arrays;
import java.util.HashSet;
import java.util.List;
import java.util.Set;

/**
 * Boundary cases, each under the promise and the sentence of the document that names it.
 * A case is a run of rows on a new object: "told g2 2;s1;" (typed and read), "text s1" (typed alone), or a call and the
 * answer that is due: "lays 0 1 1 = STATE", "window = FAULT 3"; without an answer it is one that must not be refused.
 * A row that is refused, and one that only asks, is made on one of two objects that are alike: they are alike behind it.
 */
final class Edge {
    private static final Set<String> QUESTIONS = Set.of("pane", "sheet", "now", "light", "lit", "when", "mix", "child",
        "paint", "hail", "suspects", "glasses", "look", "count", "trace");
    private static final Set<String> REFUSALS = Set.of("BAD", "STATE", "FULL", "NO");
    private static final int PROMISES = 30;

    private final String document = readDocument();
    private final Set<Integer> named = new HashSet<>();
    private String sentence = "";
    private int asked;
    private int wrong;

    /** What the cases from here on hold the class to: words of the document, just as they stand there. */
    void says(int promise, String words) {
        sentence = "promise " + promise + " '" + words + "'";
        named.add(promise);
        holds("these are words of the document", document.contains(words));
    }

    void run(String... rows) {
        Subject subject = new Subject();
        List<String> done = new ArrayList<>();
        Set<String> compared = new HashSet<>();
        for (String row : rows) {
            String name = row.split(" ", 2)[0];
            long got = subject.make(row);
            if (name.equals("told") || name.equals("text") || !row.contains(" = ")) {
                holds(row + " answered " + got, got >= 0);
                done.add(row);
                continue;
            }
            String due = row.substring(row.indexOf('=') + 1).strip();
            holds(String.join(", ", rows) + ": " + row + " answered " + got, got == valueOf(due));
            boolean refused = REFUSALS.contains(due) || due.startsWith("FAULT");
            if (!refused && !QUESTIONS.contains(name)) {
                done.add(row);
            } else if (refused || compared.add(name)) {
                leavesAllAsItIs(done, row);
            }
        }
    }

    /** As many calls as an object may have leave none to compare it with another: the last row's answer alone is due. */
    void manyCalls(String... rows) {
        String last = rows[rows.length - 1];
        long got = after(Arrays.asList(rows).subList(0, rows.length - 1)).make(last);
        holds(last + " answered " + got, got == valueOf(last.split(" = ")[1]));
    }

    /**
     * A call with the least and the greatest of each number ("pane 0..4 0..3 0..3"): these are taken, in all ways to join
     * them (with "= STATE": refused so, but not as BAD); one below or above or far off is BAD, whatever the others are.
     */
    void bounds(String call, String... ahead) {
        String[] sides = call.split(" = ");
        String[] words = sides[0].split(" ");
        int[] least = new int[words.length - 1];
        int[] most = new int[words.length - 1];
        for (int i = 0; i < least.length; i++) {
            String[] ends = words[i + 1].split("\\.\\.");
            least[i] = Integer.parseInt(ends[0]);
            most[i] = Integer.parseInt(ends[1]);
        }
        String bad = words[0].equals("mark") ? "NO" : "BAD";
        for (int way = 0; way < 1 << least.length; way++) {
            int[] numbers = least.clone();
            for (int i = 0; i < numbers.length; i++) {
                numbers[i] = (way >> i & 1) != 0 ? most[i] : least[i];
            }
            if (sides.length > 1) {
                run(with(ahead, rowOf(words[0], numbers) + " = " + sides[1]));
            } else {
                long got = after(Arrays.asList(ahead)).make(rowOf(words[0], numbers));
                holds(rowOf(words[0], numbers) + " is taken", got != valueOf(bad));
            }
        }
        for (int i = 0; i < least.length; i++) {
            for (int[] others : List.of(least, most)) {
                for (int off : List.of(least[i] - 1, most[i] + 1, least[i] - 256, least[i] + 256, least[i] + 65536,
                        Integer.MIN_VALUE, Integer.MAX_VALUE)) {
                    int[] numbers = others.clone();
                    numbers[i] = off;
                    if (off < least[i] || off > most[i]) {
                        run(with(ahead, rowOf(words[0], numbers) + " = " + bad));
                    }
                }
            }
        }
    }

    void end() {
        for (int promise = 1; promise <= PROMISES; promise++) {
            sentence = "promise " + promise;
            holds("it has a boundary case", named.contains(promise));
        }
        System.out.println(asked + " boundary answers, " + wrong + " not as due");
        if (wrong != 0) {
            System.exit(1);
        }
    }

    static String[] with(String[] rows, String... more) {
        String[] all = Arrays.copyOf(rows, rows.length + more.length);
        System.arraycopy(more, 0, all, rows.length, more.length);
        return all;
    }

    private void holds(String what, boolean so) {
        asked++;
        if (!so) {
            wrong++;
            System.out.println(sentence + ": not so: " + what);
        }
    }

    private static String readDocument() {
        try {
            return Files.readString(Path.of("../shared/DOC.md"));
        } catch (IOException e) {
            return "";
        }
    }

    private static long valueOf(String due) {
        if (due.startsWith("FAULT ")) {
            return -10 - Long.parseLong(due.substring(6));
        }
        return switch (due) {
            case "BAD" -> -1;
            case "STATE" -> -2;
            case "FULL" -> -3;
            case "NONE" -> -9;
            case "NO" -> -1000000;
            default -> Long.parseLong(due);
        };
    }

    private static String rowOf(String name, int... numbers) {
        StringBuilder row = new StringBuilder(name);
        for (int n : numbers) {
            row.append(' ').append(n);
        }
        return row.toString();
    }

    private static Subject after(List<String> rows) {
        Subject subject = new Subject();
        for (String row : rows) {
            subject.make(row);
        }
        return subject;
    }

    /** Looking at an object changes it, so each look is at two new ones. */
    private void leavesAllAsItIs(List<String> done, String row) {
        for (Look look : Look.values()) {
            Subject with = after(done);
            with.make(row);
            holds("behind " + row + " " + look + " is as ahead of it", with.seen(look).equals(after(done).seen(look)));
        }
    }

    private enum Look { ALL_NOW, WHAT_MAY_BE_UNDONE, IMAGE_0, IMAGE_1, THE_TEXT }

    /** An object and how often it was called: nothing is promised behind the 512th call. */
    private static final class Subject {
        private static final int MOST_CALLS = 512;

        private final PaneLight p = new PaneLight();
        private int calls;

        long make(String row) {
            if (row.startsWith("told ")) {
                type(row.substring(5));
                return call("window");
            }
            if (row.startsWith("text ")) {
                type(row.substring(5));
                return 0;
            }
            String[] words = row.split(" = ")[0].split(" ");
            int[] numbers = new int[words.length - 1];
            for (int i = 0; i < numbers.length; i++) {
                numbers[i] = Integer.parseInt(words[i + 1]);
            }
            return call(words[0], numbers);
        }

        List<Long> seen(Look look) {
            List<Long> all = new ArrayList<>();
            switch (look) {
                case ALL_NOW -> {
                    seeWindow(all);
                    seeSights(all);
                }
                case WHAT_MAY_BE_UNDONE -> seePast(all);
                case IMAGE_0, IMAGE_1 -> {
                    all.add(call("back", look == Look.IMAGE_0 ? 0 : 1));
                    seePast(all);
                }
                case THE_TEXT -> {
                    all.add(call("window"));
                    seeWindow(all);
                    all.add(call("clear"));
                }
            }
            return all;
        }

        private void seeWindow(List<Long> all) {
            for (int what = 0; what < 7; what++) {
                all.add(call("now", what));
                all.add(call("count", what));
            }
            for (int n = 0; n < 20; n++) {
                all.add(call("pane", n / 4, n % 4, 0));
                all.add(call("pane", n / 4, n % 4, 2));
                all.add(call("pane", n / 4, n % 4, 3));
            }
            for (int s = 0; s < 8; s++) {
                all.add(call("sheet", s, 0));
                all.add(call("sheet", s, 1));
            }
            all.add(call("trace"));
        }

        private void seeSights(List<Long> all) {
            all.add(call("suspects"));
            all.add(call("look"));
            for (int n = 0; n < 20; n++) {
                all.add(call("glasses", n / 4, n % 4));
            }
        }

        private void seePast(List<Long> all) {
            for (int n = 0; n < 12; n++) {
                for (int what = 0; what < 4; what++) {
                    all.add(call("now", what));
                }
                for (int s = 0; s < 8; s++) {
                    all.add(call("sheet", s, 1));
                }
                all.add(call("undo"));
            }
        }

        private void type(String text) {
            for (int i = 0; i < text.length(); i++) {
                call("type", text.charAt(i));
            }
        }

        private long call(String name, int... n) {
            calls++;
            if (calls > MOST_CALLS) {
                throw new IllegalStateException("a case of more than 512 calls");
            }
            return switch (name) {
                case "type" -> p.type(n[0]);
                case "clear" -> p.clear();
                case "window" -> p.window();
                case "pane" -> p.pane(n[0], n[1], n[2]);
                case "sheet" -> p.sheet(n[0], n[1]);
                case "lays" -> p.lays(n[0], n[1], n[2]);
                case "takes" -> p.takes(n[0]);
                case "breaks" -> p.breaks(n[0], n[1]);
                case "mends" -> p.mends(n[0], n[1]);
                case "moves" -> p.moves(n[0], n[1]);
                case "undo" -> p.undo();
                case "now" -> p.now(n[0]);
                case "light" -> p.light(n[0], n[1], n[2]);
                case "lit" -> p.lit(n[0], n[1], n[2]);
                case "when" -> p.when(n[0], n[1], n[2]);
                case "mix" -> p.mix(n[0], n[1], n[2], n[3], n[4]);
                case "child" -> p.child(n[0], n[1], n[2], n[3], n[4]);
                case "paint" -> p.paint(n[0]);
                case "hail" -> p.hail(n[0], n[1], n[2], n[3], n[4]);
                case "saw" -> p.saw(n[0], n[1], n[2], n[3]);
                case "forget" -> p.forget();
                case "suspects" -> p.suspects();
                case "glasses" -> p.glasses(n[0], n[1]);
                case "look" -> p.look();
                case "mark" -> p.mark(n[0], n[1], n[2]);
                case "keep" -> p.keep(n[0]);
                case "back" -> p.back(n[0]);
                case "count" -> p.count(n[0]);
                case "trace" -> p.trace();
                default -> throw new IllegalStateException("no such call: " + name);
            };
        }
    }
}
