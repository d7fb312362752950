import java.lang.reflect.InvocationTargetException;
import java.lang.reflect.Method;
import java.nio.charset.StandardCharsets;
import java.util.ArrayList;
import java.util.Arrays;
import java.util.HashMap;
import java.util.List;
import java.util.Map;
import java.util.Random;

/** Runs of random calls, the same on every machine: each answer of the class is held against the Model's. */
public final class RandomRunsTest {
    private static final int RUNS = 250;
    private static final int CALLS = 500;
    private static final int[] ODD_NUMBERS = {-1, Integer.MIN_VALUE, Integer.MAX_VALUE, -100, 65536, 17, 1 << 30};

    private final Random random;
    private final SummerPictures object = new SummerPictures();
    private final Model model = new Model();
    private final List<String> calls = new ArrayList<>();
    private static final Map<String, Method> OBJECT_METHODS = methods(SummerPictures.class);
    private static final Map<String, Method> MODEL_METHODS = methods(Model.class);

    /** Of each method the most that its numbers go up to; texts and sets are made apart. */
    private static final Map<String, int[]> TOPS = new HashMap<>();

    static {
        TOPS.put("told", new int[] {11});
        TOPS.put("picture", new int[] {16, 9});
        TOPS.put("person", new int[] {6, 2});
        TOPS.put("thought", new int[] {16});
        TOPS.put("would", new int[] {40, 9, 6, 30, 99, 999, 999, 1});
        TOPS.put("books", new int[] {3});
        TOPS.put("cost", new int[] {6});
        TOPS.put("swap", new int[] {65535, 3});
        TOPS.put("isBook", new int[] {65535});
        TOPS.put("heaps", new int[] {3});
        TOPS.put("doubles", new int[] {16});
        TOPS.put("line", new int[] {12, 11, 1});
        TOPS.put("leave", new int[] {13});
        TOPS.put("knock", new int[] {64, 16, 1});
        TOPS.put("often", new int[] {9, 16, 1});
        TOPS.put("order", new int[] {65535});
        TOPS.put("ordered", new int[] {65535, 6});
        TOPS.put("off", new int[] {11, 4});
        TOPS.put("eyes", new int[] {3, 16, 5, 1});
        TOPS.put("need", new int[] {2, 16, 16});
        TOPS.put("day", new int[] {31, 2});
        TOPS.put("together", new int[] {6, 6, 2});
        TOPS.put("strict", new int[] {17});
        TOPS.put("binned", new int[] {16});
        TOPS.put("scene", new int[] {10, 2});
        TOPS.put("friend", new int[] {6, 2});
        TOPS.put("goesOn", new int[] {1000000, 60, 16, 99, 3});
        TOPS.put("span", new int[] {1000000, 20, 60, 16, 99, 2, 15});
        TOPS.put("status", new int[] {2});
        TOPS.put("kept", new int[] {3});
        for (String name : List.of("fault", "undo", "favourite", "bestOff", "missing", "image", "restore")) {
            TOPS.put(name, new int[0]);
        }
    }

    /** Those whose last number may be all that TOPS says. */
    private static final List<String> TIGHT = List.of("would", "eyes", "line", "knock", "often", "need", "goesOn",
            "span");

    private RandomRunsTest(long seed) {
        random = new Random(seed);
    }

    public static void main(String[] args) throws ReflectiveOperationException {
        for (int run = 0; run < RUNS; run++) {
            RandomRunsTest test = new RandomRunsTest(run);
            if (!test.isRunGood()) {
                System.out.println("run " + run + " went wrong at its last call:");
                test.calls.subList(Math.max(0, test.calls.size() - 40), test.calls.size())
                        .forEach(System.out::println);
                System.exit(1);
            }
        }
        System.out.println("RandomRunsTest: all as due");
    }

    private static Map<String, Method> methods(Class<?> type) {
        Map<String, Method> map = new HashMap<>();
        for (Method m : type.getDeclaredMethods()) {
            if (java.lang.reflect.Modifier.isPublic(m.getModifiers())) {
                map.put(m.getName(), m);
            }
        }
        return map;
    }

    private boolean isRunGood() throws ReflectiveOperationException {
        List<String> names = new ArrayList<>(TOPS.keySet());
        names.sort(null);
        for (int tries = random.nextInt(10); tries < 10 && model.told(0) == 0; tries++) {
            if (!isTextGood("summer")) {
                return false;
            }
        }
        while (calls.size() < CALLS) {
            int dice = random.nextInt(20);
            boolean good;
            if (dice < 3) {
                good = isTextGood("work");
            } else if (dice == 3) {
                good = isTextGood(random.nextInt(8) == 0 ? "summer" : random.nextBoolean() ? "law" : "clocks");
            } else {
                String name = names.get(random.nextInt(names.size()));
                good = isSame(name, numbers(name, TOPS.get(name)));
            }
            if (!good) {
                return false;
            }
        }
        return true;
    }

    private Object[] numbers(String name, int[] tops) {
        Object[] out = new Object[tops.length];
        int pictures = model.told(0);
        for (int i = 0; i < tops.length; i++) {
            int top = tops[i] == 65535 && random.nextInt(8) != 0 ? (1 << pictures) - 1 : tops[i];
            if ((top == 16 || top == 15) && random.nextInt(8) != 0) {
                top = name.equals("eyes") || name.equals("need") || pictures == 0 ? 16 : Math.min(top, pictures);
            }
            // One above the last what is a wrong one: that now and then is enough.
            boolean isWhat = i > 0 && i == tops.length - 1 && !name.equals("ordered");
            top -= isWhat && random.nextInt(8) != 0 && top > 1 && !TIGHT.contains(name) ? 1 : 0;
            int value = random.nextInt(60) == 0 ? ODD_NUMBERS[random.nextInt(ODD_NUMBERS.length)]
                    : random.nextInt(top + 1);
            if (name.startsWith("order") && i == 0 && random.nextInt(8) != 0) {
                value &= random.nextInt(65536) & (random.nextBoolean() ? random.nextInt(65536) : -1);
            }
            if (name.equals("line") && i == 1 && random.nextInt(8) != 0) {
                value = (int) out[0] > 0 ? random.nextInt((int) out[0]) : 0;
            }
            if ((name.equals("goesOn") || name.equals("span")) && i == 0) {
                value = random.nextInt();
            }
            out[i] = value;
        }
        return out;
    }

    // ---- texts ----

    private boolean isTextGood(String kind) throws ReflectiveOperationException {
        String text = switch (kind) {
            case "summer" -> summerText();
            case "law" -> random.nextInt(10) == 0 ? deepText() : sumText(random.nextInt(4));
            case "work" -> random.nextInt(20) == 0 ? deepWork() : workText(1 + random.nextInt(3));
            default -> clockText();
        };
        if (random.nextInt(kind.equals("summer") ? 8 : 5) == 0) {
            text = spoilt(text);
        }
        byte[] bytes = text.getBytes(StandardCharsets.ISO_8859_1);
        for (int from = 0; from < bytes.length; from += 20) {
            Object[] words = new Object[5];
            for (int i = 0; i < 5; i++) {
                int word = 0;
                for (int k = 0; k < 4; k++) {
                    int at = from + 4 * i + k;
                    word = word << 8 | (at < bytes.length ? bytes[at] & 255 : random.nextInt(256));
                }
                words[i] = word;
            }
            if (!isSame("feed", words)) {
                return false;
            }
        }
        calls.add("  text: " + text);
        int n = random.nextInt(30) == 0 ? random.nextInt(620) - 5 : bytes.length;
        return isSame(kind, new Object[] {n}) && isSame("fault", new Object[0]) && isSame("kept", new Object[] {1});
    }

    private String summerText() {
        StringBuilder s = new StringBuilder();
        int pictures = random.nextInt(20) == 0 ? 18 : random.nextInt(6) == 0 ? random.nextInt(4) : 5 + random.nextInt(12);
        int scenes = 3 + random.nextInt(8);
        int people = 1 + random.nextInt(63) | random.nextInt(64);
        boolean crowded = random.nextBoolean();
        for (int i = 0; i < pictures; i++) {
            int crowd = crowded ? people & (random.nextInt(64) | random.nextInt(64)) : random.nextInt(4);
            s.append("picture ").append(random.nextInt(crowded ? 31 : 4)).append(' ').append(random.nextInt(10))
                    .append(gap()).append(' ').append(random.nextInt(41)).append(' ').append(crowd)
                    .append(' ').append(random.nextInt(scenes)).append(gap()).append(';');
            if (random.nextInt(3) == 0) {
                s.append(smallClause());
            }
        }
        if (random.nextInt(25) == 0) {
            for (int i = 0; i < 62 && s.length() < 590; i++) {
                s.append("bin 9;");
            }
        }
        return s.length() > 600 ? s.substring(0, 600) : s.toString();
    }

    private String smallClause() {
        return switch (random.nextInt(5)) {
            case 0 -> gap() + "size " + random.nextInt(random.nextInt(4) == 0 ? 9 : 5) + ";";
            case 1 -> "tire" + gap() + random.nextInt(10) + ";";
            case 2 -> "bin " + (1 + random.nextInt(6)) + ";";
            default -> "wish " + random.nextInt(6) + " " + random.nextInt(random.nextInt(9) == 0 ? 9 : 3) + ";";
        };
    }

    private String gap() {
        return " ".repeat(Math.max(0, random.nextInt(12) - 9));
    }

    private String sumText(int depth) {
        StringBuilder s = new StringBuilder(unitText(depth));
        for (int i = random.nextInt(3); i > 0 && s.length() < 100; i--) {
            s.append(gap()).append("+-*/".charAt(random.nextInt(4))).append(gap()).append(unitText(depth));
        }
        return s.toString();
    }

    private String unitText(int depth) {
        String[] words = {"worth", "sharp", "people", "day", "tired", "looks", "same", "star"};
        int dice = random.nextInt(depth > 0 ? 10 : 7);
        if (dice < 5) {
            return gap() + words[random.nextInt(8)];
        }
        if (dice < 7) {
            return "" + random.nextInt(random.nextBoolean() ? 5 : 1000);
        }
        return dice == 7 ? "(" + sumText(depth - 1) + gap() + ")"
                : (dice == 8 ? "least" : "most") + gap() + "[" + sumText(depth - 1) + "," + sumText(depth - 1) + "]";
    }

    private String deepText() {
        StringBuilder s = new StringBuilder("worth");
        for (int i = 4 + random.nextInt(5); i > 0; i--) {
            boolean isFirst = random.nextBoolean();
            switch (random.nextInt(3)) {
                case 0 -> s.insert(0, "(").append(")");
                case 1 -> s.insert(0, isFirst ? "least[" : "least[9,").append(isFirst ? ",9]" : "]");
                default -> s.insert(0, isFirst ? "most[" : "most[3,").append(isFirst ? ",3]" : "]");
            }
        }
        return s.append("+(1)").toString();
    }

    private String deepWork() {
        int deep = 4 + random.nextInt(5);
        return "again 2[".repeat(deep) + "rest;" + "];".repeat(deep);
    }

    private String workText(int depth) {
        StringBuilder s = new StringBuilder();
        int pictures = Math.max(1, model.told(0));
        for (int i = random.nextInt(9); i > 0 && s.length() < 120; i--) {
            int dice = random.nextInt(depth > 0 ? 14 : 12) - 2;
            if (dice >= 10) {
                int times = random.nextInt(random.nextInt(20) == 0 ? 23 : 6);
                s.append("again").append(gap()).append(times).append("[").append(workText(depth - 1)).append("]");
            } else if (dice >= 8) {
                s.append("rest");
            } else if (dice == 7) {
                s.append("evening");
            } else {
                String[] words = {"look", "look", "look", "look", "star", "star", "throw", "save", "save"};
                s.append(gap()).append(words[dice + 2]).append(" ").append(random.nextInt(pictures));
            }
            s.append(gap()).append(";");
        }
        return s.toString();
    }

    private String clockText() {
        StringBuilder s = new StringBuilder();
        int off = random.nextInt(220) - 110;
        int most = random.nextInt(8) == 0 ? 13 : 6;
        for (int i = random.nextInt(most); i > 0; i--) {
            int a = random.nextInt(100);
            int b = Math.max(0, a + off + random.nextInt(5) - 2);
            s.append(gap()).append(a).append(' ').append(random.nextInt(30) == 0 ? b + 900 : b).append(";");
        }
        return s.toString();
    }

    private String spoilt(String text) {
        StringBuilder s = new StringBuilder(text);
        for (int i = random.nextInt(3); i >= 0 && s.length() > 0; i--) {
            int at = random.nextInt(s.length());
            switch (random.nextInt(4)) {
                case 0 -> s.deleteCharAt(at);
                case 1 -> s.insert(at, " ;[](),+-*/0123456789abcxyz".charAt(random.nextInt(27)));
                case 2 -> s.setCharAt(at, (char) random.nextInt(256));
                default -> s.setLength(at);
            }
        }
        return s.length() > 600 ? s.substring(0, 600) : s.toString();
    }

    // ---- one call on both ----

    private boolean isSame(String name, Object[] numbers) throws ReflectiveOperationException {
        String got = answer(OBJECT_METHODS.get(name), object, numbers);
        String want = answer(MODEL_METHODS.get(name), model, numbers);
        calls.add(name + Arrays.toString(numbers) + " answered " + got + ", due is " + want);
        return got.equals(want);
    }

    private static String answer(Method method, Object on, Object[] numbers) throws ReflectiveOperationException {
        try {
            return String.valueOf(method.invoke(on, numbers));
        } catch (InvocationTargetException e) {
            return "throws " + e.getCause().getClass().getSimpleName();
        }
    }
}
