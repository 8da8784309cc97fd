import java.lang.reflect.Method;
import java.util.ArrayList;
import java.util.Arrays;
import java.util.Comparator;
import java.util.List;
import java.util.Random;

/** Random runs of 512 calls on the class and on the model: the answers are the same. */
public final class ModelTest {
    private static final int RUNS = 600;
    private static final int CALLS = 512;
    private static final long[] WILD = {
        Integer.MIN_VALUE, Integer.MAX_VALUE, -1000000, 31, 32, 33, 64, 70, 127, 128, 255, 256, 40000, 1L << 32,
        Long.MIN_VALUE, Long.MAX_VALUE, (1L << 32) + 3,
    };
    private static final String[] PARTS = {
        "sights ", "person ", "saw ", "half ", "heard ", "hears ", "dusk ", "signs ", "lies ", "; ", ";", "0", "1 ",
        "2 ", "3 ", "5 ", "6 ", "9", " 10 ", "007", " ", "-", "A", "\u00e9", "saws",
    };

    private final Random random;
    private final Check check;
    private final List<Method> methods = new ArrayList<>();
    private OnlyUnseen unseen;
    private Model model;
    private final List<String> told = new ArrayList<>();

    private ModelTest(int run, Check check) {
        random = new Random(run);
        this.check = check;
        for (Method m : OnlyUnseen.class.getDeclaredMethods()) {
            if (java.lang.reflect.Modifier.isPublic(m.getModifiers())) {
                methods.add(m);
            }
        }
        methods.sort(Comparator.comparing(Method::getName));
        unseen = new OnlyUnseen();
        model = new Model();
    }

    private int below(int n) {
        return n > 0 ? random.nextInt(n) : 0;
    }

    private int wildNumber() {
        switch (random.nextInt(4)) {
            case 0: return (int) WILD[random.nextInt(WILD.length)];
            case 1: return 18 + random.nextInt(4);
            case 2: return 38 + random.nextInt(4);
            default: return random.nextInt(12) - 2;
        }
    }

    /** Mostly a number that may be, by what the parameter is called. */
    private int numberFor(String parameter) {
        if (random.nextInt(12) == 0) {
            return wildNumber();
        }
        switch (parameter) {
            case "one": case "other": return below(model.status(1)) - (random.nextInt(20) == 0 ? 1 : 0);
            case "sight": return below(model.status(0));
            case "s": case "p": case "q": return below(random.nextInt(3) == 0 ? 8 : 4);
            case "kind": return below(6);
            case "how": case "what": return below(random.nextInt(3) == 0 ? 18 : 3);
            case "set": return below(1 << model.status(1));
            case "letter": return ';';
            default: return below(random.nextInt(4) == 0 ? 21 : 6) - (random.nextInt(9) == 0 ? 1 : 0);
        }
    }

    private boolean call(Method m, Object... args) {
        try {
            Method other = Model.class.getMethod(m.getName(), m.getParameterTypes());
            long got = ((Number) m.invoke(unseen, args)).longValue();
            long want = ((Number) other.invoke(model, args)).longValue();
            String call = m.getName() + Arrays.toString(args);
            told.add(call + " = " + want);
            check.due(call, got, want);
            if (got != want) {
                System.out.println(String.join("\n", told.subList(Math.max(0, told.size() - 60), told.size())));
            }
            return got == want;
        } catch (ReflectiveOperationException e) {
            check.fail(m.getName() + Arrays.toString(args) + " threw " + e.getCause());
            return false;
        }
    }

    private boolean callByName(String name, Object... args) {
        for (Method m : methods) {
            if (m.getName().equals(name)) {
                return call(m, args);
            }
        }
        return false;
    }

    private Object[] argumentsFor(Method m) {
        // the names of parameters are there because the tests are compiled with -parameters
        Class<?>[] types = m.getParameterTypes();
        Object[] args = new Object[types.length];
        for (int i = 0; i < types.length; i++) {
            if (types[i] == boolean.class) {
                args[i] = random.nextInt(4) > 0;
            } else if (types[i] == long.class) {
                args[i] = random.nextInt(9) == 0 ? WILD[random.nextInt(WILD.length)] : saying();
            } else {
                args[i] = numberFor(m.getParameters()[i].getName());
            }
        }
        return args;
    }

    private boolean readTown() {
        StringBuilder text = new StringBuilder();
        int statements = 1 + random.nextInt(6);
        for (int k = 0; k < statements; k++) {
            text.append(k > 0 ? ";" : "").append(statement());
        }
        while (random.nextInt(3) == 0) {
            int at = random.nextInt(text.length() + 1);
            if (random.nextBoolean()) {
                text.insert(at, PARTS[random.nextInt(PARTS.length)]);
            } else {
                text.setLength(at);
            }
        }
        boolean good = callByName("wipe");
        for (int i = 0; i < text.length() && good; i++) {
            good = callByName("feed", (int) text.charAt(i));
        }
        return good && callByName("town");
    }

    private String statement() {
        String[] words = {"saw", "half", "heard", "hears", "person", "person", "hears", "dusk", "signs", "lies", "sights"};
        String word = words[random.nextInt(words.length)];
        String text = word + " " + random.nextInt(word.equals("dusk") ? 2 : 5);
        if (word.equals("sights")) {
            return "sights " + (4 + random.nextInt(5));
        }
        if (word.equals("dusk") || word.equals("signs") || word.equals("lies")) {
            return text;
        }
        text += " " + random.nextInt(5);
        if (word.equals("person")) {
            text += random.nextInt(3) == 0 ? " saw " + random.nextInt(4) : "";
            text += random.nextInt(3) == 0 ? "heard" + random.nextInt(5) : "";
        }
        return text;
    }

    private boolean settle() {
        boolean good = true;
        int people = random.nextInt(8);
        for (int p = 0; p < people && good; p++) {
            good = callByName("person", random.nextInt(6), random.nextInt(10));
        }
        if (random.nextInt(3) == 0) {
            good = good && callByName("sights", 4 + random.nextInt(5));
        }
        for (int k = 0; k < people * 2 && good; k++) {
            good = callByName("near", random.nextInt(people), random.nextInt(people), true)
                && callByName("see", random.nextInt(people), random.nextInt(4), random.nextInt(3));
        }
        for (int k = 0; k < people && good; k++) {
            good = callByName("hear", random.nextInt(people), random.nextInt(4), true);
        }
        return good;
    }

    private long saying() {
        return 10L * below(model.status(1)) + below(model.status(0));
    }

    private boolean rows() {
        int s = random.nextInt(3);
        boolean good = callByName("row", s, random.nextInt(4), 1 + random.nextInt(8));
        for (int k = 0; k < 6 && good; k++) {
            good = callByName("set", s, random.nextInt(6), random.nextInt(3) == 0 ? sayable() : saying());
        }
        return good;
    }

    private long sayable() {
        long v = saying();
        // with nobody there the question would be refused, and counted by the model alone
        for (int k = 0; k < 20 && model.status(1) > 0 && model.may((int) v / 10, (int) v % 10) == 0; k++) {
            v = saying();
        }
        return v;
    }

    /** Calls after which soon everybody knows all, or that cost the model much. */
    private boolean isRare(String name) {
        return name.matches("order|image|back|sights|round|talk|evening|say|person") && random.nextInt(6) > 0;
    }

    private void run() {
        boolean good = random.nextInt(8) == 0 || settle();
        while (good && told.size() < CALLS) {
            int way = random.nextInt(60);
            Method m = methods.get(random.nextInt(methods.size()));
            if (way == 0 && random.nextInt(3) == 0) {
                good = readTown();
            } else if (way < 4) {
                good = rows();
            } else if (!isRare(m.getName())) {
                good = call(m, argumentsFor(m));
            }
        }
    }

    public static void main(String[] args) {
        int runs = args.length > 0 ? Integer.parseInt(args[0]) : RUNS;
        Check check = new Check();
        for (int run = 0; run < runs; run++) {
            new ModelTest(run, check).run();
        }
        check.end("ModelTest");
    }
}
