import java.lang.reflect.Method;
import java.util.ArrayList;
import java.util.Arrays;
import java.util.List;
import java.util.Random;

/** Runs of drawn calls (the same each time): the class answers all of them as Naive does. */
public final class OracleTest {
    private static final int RUNS = 1500, CALLS = 512;
    private static final int[] FAR = {Integer.MIN_VALUE, -1000, 1000, Integer.MAX_VALUE};
    /** Each call as often as it shall be drawn, with the least and the greatest of each number. */
    private static final String[] CALLS_DRAWN = {
        "6 text", "1 clear", "2 window",
        "3 pane 0 4 0 3 0 3", "3 sheet 0 7 0 1",
        "14 lays 0 7 0 4 0 3", "5 takes 0 7", "5 breaks 0 4 0 3", "5 mends 0 4 0 3", "4 moves 1 12 0 3", "6 undo", "5 now 0 6",
        "6 light 0 11 0 6 0 7", "3 lit 0 7 0 7 0 1", "3 when 0 11 0 6 0 7", "4 mix 0 11 0 6 0 7 0 7 0 2",
        "4 child 0 11 0 6 0 7 1 7 -1 7", "2 paint 0 1", "4 hail 0 11 0 6 0 7 0 10 0 1",
        "4 saw 0 11 0 6 0 7 0 7", "3 true saw", "2 forget", "4 suspects", "4 glasses 0 4 0 3", "2 look",
        "4 mark 0 5 0 4 0 3", "3 keep 0 1", "3 back 0 1", "3 count 0 5", "1 trace",
    };

    private static final List<String[]> drawn = new ArrayList<>();
    private static Random random;
    private static PaneLight light;
    private static Naive naive;
    private static List<String> run;
    private static long answers;

    public static void main(String[] args) throws Exception {
        for (String line : CALLS_DRAWN) {
            String[] words = line.split(" ", 2);
            for (int i = 0; i < Integer.parseInt(words[0]); i++) {
                drawn.add(words[1].split(" "));
            }
        }
        for (int seed = 0; seed < RUNS; seed++) {
            random = new Random(seed);
            light = new PaneLight();
            naive = new Naive();
            run = new ArrayList<>();
            while (run.size() < CALLS) {
                draw();
            }
        }
        System.out.println(answers + " answers as Naive has them");
    }

    private static void draw() throws Exception {
        String[] call = drawn.get(random.nextInt(drawn.size()));
        if (call[0].equals("text")) {
            drawText();
        } else if (call[0].equals("true")) {
            drawTrueSight();
        } else {
            int[] numbers = new int[(call.length - 1) / 2];
            for (int i = 0; i < numbers.length; i++) {
                numbers[i] = drawNumber(Integer.parseInt(call[2 * i + 1]), Integer.parseInt(call[2 * i + 2]));
            }
            compare(call[0], numbers);
        }
    }

    /** Mostly as told, at times one off or far off. */
    private static int drawNumber(int least, int most) {
        int chance = random.nextInt(60);
        if (chance == 0) return least - 1;
        if (chance == 1) return most + 1;
        if (chance == 2) return FAR[random.nextInt(FAR.length)];
        return least + random.nextInt(most - least + 1);
    }

    /** What is so (or were, if one pane were broken), so that suspects don't die out at once. */
    private static void drawTrueSight() throws Exception {
        int x = random.nextInt(8);
        int y = random.nextInt(7);
        int h = random.nextInt(4);
        compare("saw", x, y, h, random.nextInt(4) == 0 ? 7 : naive.light(x, y, h));
    }

    /** A text, mostly without a fault, read at once or left to be typed on. */
    private static void drawText() throws Exception {
        if (random.nextInt(4) != 0) {
            return;
        }
        StringBuilder text = new StringBuilder();
        int wide = 1 + random.nextInt(5);
        int high = 1 + random.nextInt(4);
        if (random.nextInt(3) != 0) {
            text.append("g").append(wide).append(" ").append(high).append(";");
        } else {
            wide = 5;
            high = 4;
        }
        int colours = random.nextBoolean() ? 8 : 2;
        for (int i = random.nextInt(12); i > 0; i--) {
            text.append("p").append(random.nextInt(wide)).append(" ").append(random.nextInt(high)).append(" ")
                .append(random.nextInt(colours)).append(";");
        }
        for (int i = random.nextInt(random.nextInt(10) == 0 ? 11 : 9); i > 0; i--) {
            text.append("s").append(random.nextInt(8)).append(";");
        }
        if (random.nextInt(3) != 0) text.append("m").append(1 + random.nextInt(12)).append(";");
        if (random.nextInt(2) != 0) text.append("y").append(random.nextInt(4)).append(";");
        if (random.nextInt(3) == 0) spoil(text);
        for (int i = 0; i < text.length(); i++) {
            compare("type", text.charAt(i));
        }
        if (random.nextInt(8) != 0) compare("window");
    }

    private static void spoil(StringBuilder text) {
        String signs = "gpsmyz;  0123456789A?";
        for (int i = 1 + random.nextInt(2); i > 0; i--) {
            int at = random.nextInt(text.length() + 1);
            char sign = signs.charAt(random.nextInt(signs.length()));
            if (at == text.length() || random.nextBoolean()) {
                text.insert(at, sign);
            } else if (random.nextBoolean()) {
                text.setCharAt(at, sign);
            } else {
                text.deleteCharAt(at);
            }
        }
    }

    private static void compare(String name, int... numbers) throws Exception {
        if (run.size() >= CALLS) {
            return;
        }
        long want = answer(naive, name, numbers);
        long got = answer(light, name, numbers);
        run.add(name + Arrays.toString(numbers) + " => " + got);
        answers++;
        if (got != want) {
            System.out.println(String.join("\n", run));
            System.out.println("due is " + want);
            System.exit(1);
        }
    }

    private static long answer(Object of, String name, int[] numbers) throws Exception {
        Class<?>[] types = new Class<?>[numbers.length];
        Arrays.fill(types, int.class);
        Method method = of.getClass().getMethod(name, types);
        return ((Number) method.invoke(of, Arrays.stream(numbers).boxed().toArray())).longValue();
    }
}
