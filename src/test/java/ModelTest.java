import java.lang.reflect.Method;
import java.util.ArrayList;
import java.util.Arrays;
import java.util.Comparator;
import java.util.List;
import java.util.Random;

/** Random runs of 512 calls on the class and on the model: the answers are the same. */
public final class ModelTest {
    private static final int RUNS = 600;
    private static final int CALLS = 512;
    private static final long[] WILD = {
        Integer.MIN_VALUE, Integer.MAX_VALUE, -1000000, 31, 32, 33, 64, 70, 127, 128, 255, 256, 40000, 1L << 32,
        Long.MIN_VALUE, Long.MAX_VALUE, (1L << 32) + 3,
    };
    private static final String[] PARTS = {
        "sights ", "person ", "saw ", "half ", "heard ", "hears ", "dusk ", "signs ", "lies ", "; ", ";", "0", "1 ",
        "2 ", "3 ", "5 ", "6 ", "9", " 10 ", "007", " ", "-", "A", "\u00e9", "saws",
    };

    private final Random random;
    private final Check check;
    private final List<Method> methods = new ArrayList<>();
    private OnlyUnseen unseen;
    private Model model;
    private final List<String> told = new ArrayList<>();

    private ModelTest(int run, Check check) {
        random = new Random(run);
        this.check = check;
        for (Method m : OnlyUnseen.class.getDeclaredMethods()) {
            if (java.lang.reflect.Modifier.isPublic(m.getModifiers())) {
                methods.add(m);
            }
        }
        methods.sort(Comparator.comparing(Method::getName));
        unseen = new OnlyUnseen();
        model = new Model();
    }

    private long number() {
        int way = random.nextInt(100);
        if (way < 3) {
            return WILD[random.nextInt(WILD.length)];
        }
        if (way < 8) {
            return random.nextInt(60) - 10;
        }
        if (way < 12) {
            return 18 + random.nextInt(4);
        }
        if (way < 16) {
            return 38 + random.nextInt(4);
        }
        return way < 60 ? random.nextInt(4) : random.nextInt(10) - 1;
    }

    private boolean call(Method m, Object... args) {
        try {
            Method other = Model.class.getMethod(m.getName(), m.getParameterTypes());
            long got = ((Number) m.invoke(unseen, args)).longValue();
            long want = ((Number) other.invoke(model, args)).longValue();
            String call = m.getName() + Arrays.toString(args);
            told.add(call + " = " + want);
            check.due(call, got, want);
            if (got != want) {
                System.out.println(String.join("\n", told));
            }
            return got == want;
        } catch (ReflectiveOperationException e) {
            check.fail(m.getName() + Arrays.toString(args) + " threw " + e.getCause());
            return false;
        }
    }

    private boolean callByName(String name, Object... args) {
        for (Method m : methods) {
            if (m.getName().equals(name)) {
                return call(m, args);
            }
        }
        return false;
    }

    private Object[] argumentsFor(Method m) {
        Class<?>[] types = m.getParameterTypes();
        Object[] args = new Object[types.length];
        for (int i = 0; i < types.length; i++) {
            if (types[i] == boolean.class) {
                args[i] = random.nextInt(4) > 0;
            } else if (types[i] == long.class) {
                args[i] = random.nextInt(9) == 0 ? number() : random.nextInt(7) * 10L + random.nextInt(5);
            } else {
                args[i] = (int) number();
            }
        }
        return args;
    }

    private boolean readTown() {
        StringBuilder text = new StringBuilder();
        int statements = 1 + random.nextInt(6);
        for (int k = 0; k < statements; k++) {
            text.append(k > 0 ? ";" : "").append(statement());
        }
        while (random.nextInt(3) == 0) {
            int at = random.nextInt(text.length() + 1);
            if (random.nextBoolean()) {
                text.insert(at, PARTS[random.nextInt(PARTS.length)]);
            } else {
                text.setLength(at);
            }
        }
        boolean good = callByName("wipe");
        for (int i = 0; i < text.length() && good; i++) {
            good = callByName("feed", (int) text.charAt(i));
        }
        return good && callByName("town");
    }

    private String statement() {
        String[] words = {"saw", "half", "heard", "hears", "person", "person", "hears", "dusk", "signs", "lies", "sights"};
        String word = words[random.nextInt(words.length)];
        String text = word + " " + random.nextInt(word.equals("dusk") ? 2 : 5);
        if (word.equals("sights")) {
            return "sights " + (4 + random.nextInt(5));
        }
        if (word.equals("dusk") || word.equals("signs") || word.equals("lies")) {
            return text;
        }
        text += " " + random.nextInt(5);
        if (word.equals("person")) {
            text += random.nextInt(3) == 0 ? " saw " + random.nextInt(4) : "";
            text += random.nextInt(3) == 0 ? "heard" + random.nextInt(5) : "";
        }
        return text;
    }

    private boolean settle() {
        boolean good = true;
        int people = random.nextInt(8);
        for (int p = 0; p < people && good; p++) {
            good = callByName("person", random.nextInt(6), random.nextInt(10));
        }
        if (random.nextInt(3) == 0) {
            good = good && callByName("sights", 4 + random.nextInt(5));
        }
        for (int k = 0; k < people * 2 && good; k++) {
            good = callByName("near", random.nextInt(people), random.nextInt(people), true)
                && callByName("see", random.nextInt(people), random.nextInt(4), random.nextInt(3));
        }
        for (int k = 0; k < people && good; k++) {
            good = callByName("hear", random.nextInt(people), random.nextInt(4), true);
        }
        return good;
    }

    private boolean rows() {
        boolean good = callByName("row", random.nextInt(3), random.nextInt(4), 1 + random.nextInt(8));
        for (int k = 0; k < 6 && good; k++) {
            long v = random.nextInt(6) * 10L + random.nextInt(4);
            good = callByName("set", random.nextInt(3), random.nextInt(6), v);
        }
        return good;
    }

    private void run() {
        boolean good = random.nextInt(8) == 0 || settle();
        while (good && told.size() < CALLS) {
            int way = random.nextInt(60);
            Method m = methods.get(random.nextInt(methods.size()));
            boolean rare = m.getName().matches("order|image|back|sights") && random.nextInt(4) > 0;
            if (way == 0 && random.nextInt(3) == 0) {
                good = readTown();
            } else if (way < 4) {
                good = rows();
            } else if (!rare) {
                good = call(m, argumentsFor(m));
            }
        }
    }

    public static void main(String[] args) {
        int runs = args.length > 0 ? Integer.parseInt(args[0]) : RUNS;
        Check check = new Check();
        for (int run = 0; run < runs; run++) {
            new ModelTest(run, check).run();
        }
        check.end("ModelTest");
    }
}
