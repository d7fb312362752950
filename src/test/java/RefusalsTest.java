import java.lang.reflect.InvocationTargetException;
import java.lang.reflect.Method;
import java.util.ArrayList;
import java.util.Arrays;
import java.util.List;
import java.util.NoSuchElementException;
import java.util.function.Supplier;

/**
 * Every number that a call takes, at both its ends: the last one that is allowed is answered, the first that is not
 * is refused by the exception that the document names. A refused call is counted once, and changes nothing else.
 */
public final class RefusalsTest {
    private static final int ANY = Integer.MAX_VALUE;

    /**
     * A call, and of each of its numbers the least and the greatest; one of a PICTURE or PERSON is an element. Above
     * one that is open others may be allowed, too: those are gone through apart.
     */
    private record Face(String name, int[] least, int[] most, boolean[] element, boolean[] open) {
        Method method() throws ReflectiveOperationException {
            Class<?>[] types = new Class<?>[least.length];
            Arrays.fill(types, int.class);
            return SummerPictures.class.getMethod(name, types);
        }
    }

    private int wrong;

    public static void main(String[] args) throws ReflectiveOperationException {
        RefusalsTest test = new RefusalsTest();
        test.refuseOn("rich", Whole::rich, facesFor(5, 3, Whole.RICH_TAPE));
        test.refuseOn("new", SummerPictures::new, facesFor(0, 0, 0));
        test.refuseOn("full", Whole::full, facesFor(16, 1, Whole.RICH_TAPE));
        test.refuseOn("long tape", RefusalsTest::withLongTape, textFaces(600, 150, 100));
        test.refuseOn("tape between", RefusalsTest::withTapeBetween, textFaces(120, 120, 100));
        test.refuseInside();
        test.answerOthers();
        test.answerWithoutNumbers();
        System.out.println("RefusalsTest: " + (test.wrong == 0 ? "all as due" : test.wrong + " wrong"));
        if (test.wrong != 0) {
            System.exit(1);
        }
    }

    private static SummerPictures withLongTape() {
        SummerPictures x = Whole.rich();
        Check.feed(x, " ".repeat(580));
        return x;
    }

    private static SummerPictures withTapeBetween() {
        SummerPictures x = Whole.rich();
        Check.feed(x, " ".repeat(100));
        return x;
    }

    // ---- what the document allows ----

    /** p stands ahead of elements, + behind what is open; a row is a set of few, of which none is gone. */
    private static List<Face> facesFor(int pictures, int row, int tape) {
        List<Face> faces = textFaces(tape, tape, tape);
        int bits = (1 << pictures) - 1;
        String p = "p0-" + (pictures - 1);
        for (String said : List.of("told 0-10", "picture " + p + " 0-8", "person p0-5 0-1", "thought " + p,
                "would 0-40 0-9 0-6 0-30 0-99 0-999 0-999 0-1", "books 0-2", "cost p0-5", "swap 0-" + bits + " 0-2",
                "isBook 0-" + bits, "heaps 0-2", "doubles " + p, "line 1-12 0-0+ 0-1", "leave 1-12",
                "knock 1-64 0-16 0-1", "often 1-9 0-16 0-1", "order 0-" + row + "+", "ordered 0-" + row + "+ 0-" + ANY,
                "off 0-10 0-3", "eyes 0-3 0-16 0-5 0-1", "need 0-2 0-16 0-16", "day 0-30 0-1",
                "together p0-5 p0-5 0-1", "strict 0-16", "binned " + p, "scene 0-9 0-1", "friend p0-5 0-1",
                "goesOn any 1-60 0-16 0-99 0-3", "span any 1-20 1-60 0-16 0-99 0-2 0-" + (pictures - 1))) {
            faces.add(face(said));
        }
        return faces;
    }

    private static List<Face> textFaces(int summer, int shorter, int clocks) {
        return new ArrayList<>(List.of(face("summer 0-" + summer), face("law 0-" + shorter), face("work 0-" + shorter),
                face("clocks 0-" + clocks)));
    }

    private static Face face(String said) {
        String[] words = said.split(" ");
        int many = words.length - 1;
        Face face = new Face(words[0], new int[many], new int[many], new boolean[many], new boolean[many]);
        for (int i = 0; i < many; i++) {
            String word = words[i + 1];
            face.element[i] = word.startsWith("p");
            face.open[i] = word.endsWith("+");
            boolean isAny = word.equals("any");
            String[] ends = word.replace("p", "").replace("+", "").split("-", 2);
            face.least[i] = isAny ? Integer.MIN_VALUE : Integer.parseInt(ends[0]);
            face.most[i] = isAny ? ANY : Integer.parseInt(ends[1]);
        }
        return face;
    }

    // ---- refusals by the table ----

    private void refuseOn(String state, Supplier<SummerPictures> made, List<Face> faces)
            throws ReflectiveOperationException {
        String untouched = all(made.get());
        for (Face face : faces) {
            boolean isEmpty = false;
            for (int i = 0; i < face.least.length; i++) {
                isEmpty |= face.most[i] < face.least[i];
            }
            for (int i = 0; i < face.least.length; i++) {
                List<Integer> outside = outside(face, i);
                for (int number : outside) {
                    refuse(state, made, face, with(face.least, i, number), untouched);
                    refuse(state, made, face, with(face.most, i, number), untouched);
                }
            }
            if (!isEmpty) {
                allow(state, made, face, untouched);
                refuseAllWrong(state, made, face, untouched);
            }
        }
    }

    private static int[] with(int[] numbers, int place, int number) {
        int[] out = numbers.clone();
        out[place] = number;
        return out;
    }

    private static List<Integer> outside(Face face, int i) {
        List<Integer> numbers = new ArrayList<>();
        for (long n : new long[] {face.least[i] - 1L, face.most[i] + 1L, Integer.MIN_VALUE, Integer.MAX_VALUE}) {
            boolean isOutside = n < face.least[i] || n > face.most[i] && !(face.open[i] && n == face.most[i] + 1L);
            if (n == (int) n && isOutside && !numbers.contains((int) n)) {
                numbers.add((int) n);
            }
        }
        return numbers;
    }

    /** What is asked is answered, and nothing stays changed by it; texts do change things. */
    private void allow(String state, Supplier<SummerPictures> made, Face face, String untouched)
            throws ReflectiveOperationException {
        boolean isText = List.of("summer", "law", "work", "clocks").contains(face.name);
        for (int i = 0; i < face.least.length; i++) {
            for (int[] base : new int[][] {face.least, face.most}) {
                for (int end : new int[] {face.least[i], face.most[i]}) {
                    SummerPictures x = made.get();
                    int[] numbers = with(base, i, end);
                    Class<?> thrown = thrownBy(x, face, numbers);
                    demand(thrown == null, state + ": " + shown(face, numbers) + " throws " + thrown);
                    demand(x.status(0) == 0 && x.status(1) == 0, state + ": " + shown(face, numbers) + " is counted");
                    demand(isText || all(x).equals(untouched), state + ": " + shown(face, numbers) + " changes something");
                }
            }
        }
    }

    /** Whatever is wrong with it, a call is refused once; no such element goes ahead of all else. */
    private void refuseAllWrong(String state, Supplier<SummerPictures> made, Face face, String untouched)
            throws ReflectiveOperationException {
        int[] numbers = new int[face.least.length];
        for (int i = 0; i < numbers.length; i++) {
            boolean isAny = face.least[i] == Integer.MIN_VALUE;
            numbers[i] = isAny ? 0 : face.least[i] - 1;
        }
        refuse(state, made, face, numbers, untouched);
    }

    private void refuse(String state, Supplier<SummerPictures> made, Face face, int[] numbers, String untouched)
            throws ReflectiveOperationException {
        boolean isUnknown = false;
        for (int i = 0; i < numbers.length; i++) {
            isUnknown |= face.element[i] && (numbers[i] < face.least[i] || numbers[i] > face.most[i]);
        }
        refuse(state, made, face, numbers, isUnknown, untouched);
    }

    private void refuse(String state, Supplier<SummerPictures> made, Face face, int[] numbers, boolean isUnknown,
            String untouched) throws ReflectiveOperationException {
        String call = state + ": " + shown(face, numbers);
        SummerPictures x = made.get();
        Class<?> thrown = thrownBy(x, face, numbers);
        Class<?> due = isUnknown ? NoSuchElementException.class : IllegalArgumentException.class;
        demand(thrown == due, call + " throws " + thrown + ", due is " + due);
        int[] counts = {x.status(0), x.status(1)};
        demand(counts[0] == (isUnknown ? 1 : 0) && counts[1] == (isUnknown ? 0 : 1),
                call + " is counted " + Arrays.toString(counts));
        String seen = all(x);
        demand(seen.equals(untouched), call + " changes something:\n" + seen + "\ndue is\n" + untouched);
    }

    // ---- refusals that lie inside the ends, or that the ends of others move ----

    private void refuseInside() throws ReflectiveOperationException {
        refuseLines();
        String rich = all(Whole.rich());
        String full = all(Whole.full());
        for (int m = 2; m <= 8; m += 2) {
            refuse("even", Whole::rich, face("often 1-9 0-16 0-1"), new int[] {m, 8, 0}, false, rich);
        }
        for (int bits : new int[] {0x7f, 0xfe00, 0xffff, 0x5555}) {
            refuseRow("more than six", Whole::full, bits, full);
        }
        for (int bits : new int[] {0x10000, 0x10001, 0xf0000000}) {
            refuseRow("no such pictures", Whole::full, bits, full);
        }
        for (int bits : new int[] {0, 0x3f, 0xfc00, 0x4000, 0x1111}) {
            allowRow("six, or one that is thrown", Whole.full(), bits);
        }
        for (int bits : new int[] {4, 7, 31, 32, 33}) {
            refuseRow("one that is gone, or none", Whole::rich, bits, rich);
        }
        for (int bits : new int[] {1, 27}) {
            allowRow("none is gone", Whole.rich(), bits);
        }
    }

    private void refuseLines() throws ReflectiveOperationException {
        String rich = all(Whole.rich());
        Face line = face("line 1-12 0-11 0-1");
        for (int n = 1; n <= 12; n++) {
            int[] last = {n, n - 1, 0};
            demand(thrownBy(Whole.rich(), line, last) == null, shown(line, last) + " is refused");
            refuse("r of n", Whole::rich, line, new int[] {n, n, 0}, false, rich);
        }
    }

    private void refuseRow(String state, Supplier<SummerPictures> made, int bits, String untouched)
            throws ReflectiveOperationException {
        refuse(state, made, face("order any"), new int[] {bits}, false, untouched);
        refuse(state, made, face("ordered any 0-9"), new int[] {bits, 0}, false, untouched);
        refuse(state, made, face("ordered any 0-9"), new int[] {bits, -1}, false, untouched);
    }

    private void allowRow(String state, SummerPictures x, int bits) throws ReflectiveOperationException {
        demand(thrownBy(x, face("order any"), new int[] {bits}) == null, state + ": order of " + bits);
        demand(thrownBy(x, face("ordered any 0-9"), new int[] {bits, 0}) == null, state + ": ordered of " + bits);
    }

    private static String all(SummerPictures x) {
        return Whole.seen(x) + Whole.texts(x);
    }

    /** status and kept refuse nothing: others are answered by NONE. */
    private void answerOthers() {
        for (int what : new int[] {-1, 2, Integer.MIN_VALUE, Integer.MAX_VALUE}) {
            SummerPictures x = Whole.rich();
            demand(x.status(what) == -1, "status " + what);
            int other = what == 2 ? 3 : what;
            demand(x.kept(other) == -1, "kept " + other);
            demand(x.status(0) == 0 && x.status(1) == 0, "status " + what + " is counted");
        }
    }

    /** Calls that take no number are never refused, and those that only answer change nothing. */
    private void answerWithoutNumbers() throws ReflectiveOperationException {
        for (Supplier<SummerPictures> made : List.<Supplier<SummerPictures>>of(SummerPictures::new, Whole::rich, Whole::full)) {
            String untouched = all(made.get());
            for (String name : List.of("fault", "favourite", "bestOff", "missing", "undo", "image", "restore")) {
                SummerPictures x = made.get();
                Face face = new Face(name, new int[0], new int[0], new boolean[0], new boolean[0]);
                int answer = (int) face.method().invoke(x);
                demand(x.status(0) == 0 && x.status(1) == 0, name + " is counted");
                boolean isChange = List.of("undo", "image", "restore").contains(name) && answer != -1;
                demand(all(x).equals(untouched) != isChange, name + " answered " + answer + ", changed is " + !isChange);
            }
        }
    }

    // ---- one call ----

    private static Class<?> thrownBy(SummerPictures x, Face face, int[] numbers) throws ReflectiveOperationException {
        Object[] values = new Object[numbers.length];
        for (int i = 0; i < values.length; i++) {
            values[i] = numbers[i];
        }
        try {
            face.method().invoke(x, values);
            return null;
        } catch (InvocationTargetException e) {
            return e.getCause().getClass();
        }
    }

    private static String shown(Face face, int[] numbers) {
        return face.name + Arrays.toString(numbers);
    }

    private void demand(boolean good, String what) {
        if (!good) {
            wrong++;
            System.out.println(what);
        }
    }
}
