import java.lang.reflect.InvocationTargetException;
import java.lang.reflect.Method;
import java.nio.charset.StandardCharsets;
import java.util.ArrayList;
import java.util.Arrays;
import java.util.List;
import java.util.Random;

/** Long random runs of calls, in which the class and LandModel must answer alike. */
public final class ModelTests {
    /** Every call of the face, with the sort of each argument. */
    private static final String[] CALLS = {
        "fault", "where", "gate g what", "person p what", "firm f what", "commons", "richest", "ground",
        "hasIf p g hung", "can move", "errand", "errandAt i", "met", "movesFor p much", "mostBy p moves",
        "reach", "cover", "coverAt g", "stills", "isStill", "fairest", "fairAt g", "fits", "fitAt i k",
        "hungBy k hung", "look", "lookLeaves", "judge", "apart g g", "sentries", "parts", "estate p g",
        "power p bool", "rule", "steal worth bool bool bool", "rests worth", "rest worth",
        "holds g years bool", "mean p bool", "keeps p much bool", "century p seed n", "bare seed n",
        "hang g bool", "take g", "turnOver g", "gust", "seed seed", "undo", "image", "back image",
        "led i", "size size", "trouble",
        "hang g bool", "take g", "turnOver g", "gust", "undo", "hang g bool",
    };

    private final Random random;
    private HookGates real = new HookGates();
    private LandModel model = new LandModel();
    private final List<String> log = new ArrayList<>();
    private static int wrong;
    private static int done;

    private ModelTests(long number) {
        random = new Random(number);
    }

    public static void main(String[] args) throws Exception {
        long runs = args.length > 0 ? Long.parseLong(args[0]) : 700;
        for (long run = 0; run < runs && wrong < 10; run++) {
            new ModelTests(run).run();
        }
        System.out.println(done + " calls like the model's, " + wrong + " unlike");
        if (wrong != 0) {
            System.exit(1);
        }
    }

    private void run() throws Exception {
        int calls = 0;
        boolean right = true;
        while (calls < 440 && right) {
            if (calls == 0 || random.nextInt(60) == 0) {
                String text = random.nextInt(3) == 0 ? LandTexts.spoilt(random) : LandTexts.sound(random);
                right = tell(text);
                calls += 46;
            } else {
                right = call(CALLS[random.nextInt(CALLS.length)]);
                calls++;
            }
        }
        if (!right) {
            wrong++;
            System.out.println("the run:\n  " + String.join("\n  ", log));
        }
    }

    private boolean tell(String text) throws Exception {
        byte[] bytes = text.getBytes(StandardCharsets.ISO_8859_1);
        boolean right = true;
        for (int at = 0; at < bytes.length && right; at += 20) {
            byte[] twenty = Arrays.copyOf(Arrays.copyOfRange(bytes, at, Math.min(at + 20, bytes.length)), 20);
            Object[] five = new Object[5];
            for (int i = 0; i < 5; i++) {
                int v = 0;
                for (int j = 0; j < 4; j++) {
                    v = v << 8 | twenty[4 * i + j] & 255;
                }
                five[i] = v;
            }
            right = same("feed", five);
        }
        int n = random.nextInt(20) == 0 ? random.nextInt(1000) - 20 : bytes.length;
        log.add("text " + text);
        return right && same("land", n) && look();
    }

    private boolean look() throws Exception {
        return same("trouble") && same("fault") && same("where");
    }

    private boolean call(String row) throws Exception {
        String[] words = row.split(" ");
        Object[] values = new Object[words.length - 1];
        for (int i = 0; i < values.length; i++) {
            values[i] = argument(words[i + 1]);
        }
        return same(words[0], values) && look();
    }

    private Object argument(String sort) {
        if (sort.equals("bool")) {
            return random.nextBoolean();
        }
        if (random.nextInt(25) == 0) {
            int[] odd = {-1, Integer.MIN_VALUE, Integer.MAX_VALUE, -2, 600, 1000, 65537, 61, 21, 5, 6, 32};
            return odd[random.nextInt(odd.length)];
        }
        switch (sort) {
            case "g": return random.nextInt(random.nextInt(4) == 0 ? 7 : 3);
            case "p": return random.nextInt(random.nextInt(4) == 0 ? 6 : 3);
            case "f": return random.nextInt(5);
            case "what": return random.nextInt(7);
            case "hung": return random.nextInt(3);
            case "move": return random.nextInt(25);
            case "i": return random.nextInt(6);
            case "k": return random.nextInt(4);
            case "much": return random.nextInt(random.nextBoolean() ? 40 : 600);
            case "moves": return random.nextInt(random.nextBoolean() ? 5 : 22);
            case "worth": return random.nextInt(4) == 0 ? random.nextInt(2) : random.nextInt(22);
            case "years": return random.nextInt(5);
            case "n": return random.nextInt(random.nextBoolean() ? 5 : 62);
            case "seed": return random.nextInt(65538);
            case "image": return random.nextInt(4);
            case "size": return random.nextInt(15);
            default: throw new IllegalArgumentException(sort);
        }
    }

    private boolean same(String name, Object... values) throws Exception {
        Object got = answer(real, name, values);
        Object due = answer(model, name, values);
        log.add(name + Arrays.toString(values) + " answered " + got + ", due is " + due);
        done++;
        return got.equals(due);
    }

    private static Object answer(Object on, String name, Object... values) throws Exception {
        Class<?>[] sorts = new Class<?>[values.length];
        for (int i = 0; i < values.length; i++) {
            sorts[i] = values[i] instanceof Boolean ? boolean.class : int.class;
        }
        Method method = on.getClass().getMethod(name, sorts);
        try {
            return method.invoke(on, values);
        } catch (InvocationTargetException thrown) {
            return thrown.getCause().getClass().getName();
        }
    }
}
