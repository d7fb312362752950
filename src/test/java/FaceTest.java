import java.io.IOException;
import java.lang.reflect.Constructor;
import java.lang.reflect.Field;
import java.lang.reflect.Method;
import java.lang.reflect.Modifier;
import java.nio.file.Files;
import java.nio.file.Path;
import java.util.HashMap;
import java.util.HashSet;
import java.util.List;
import java.util.Map;
import java.util.Set;
import java.util.TreeSet;
import java.util.regex.Matcher;
import java.util.regex.Pattern;

/** The face is the document's and no more, and the file keeps to those rules of LANGUAGE.md that can be seen. */
public final class FaceTest {
    private static final String FACE = """
            int feed(int,int,int,int,int)
            int summer(int) IllegalArgumentException
            int law(int) IllegalArgumentException
            int work(int) IllegalArgumentException
            int clocks(int) IllegalArgumentException
            int fault()
            int undo()
            int told(int) IllegalArgumentException
            int picture(int,int) NoSuchElementException IllegalArgumentException
            int person(int,int) NoSuchElementException IllegalArgumentException
            int thought(int) NoSuchElementException
            int would(int,int,int,int,int,int,int,int) IllegalArgumentException
            int favourite()
            int books(int) IllegalArgumentException
            int cost(int) NoSuchElementException
            int swap(int,int) IllegalArgumentException
            boolean isBook(int) IllegalArgumentException
            int heaps(int) IllegalArgumentException
            int doubles(int) NoSuchElementException
            long line(int,int,int) IllegalArgumentException
            int leave(int) IllegalArgumentException
            long knock(int,int,int) IllegalArgumentException
            long often(int,int,int) IllegalArgumentException
            int order(int) IllegalArgumentException
            int ordered(int,int) IllegalArgumentException
            int off(int,int) IllegalArgumentException
            int bestOff()
            long eyes(int,int,int,int) IllegalArgumentException
            int need(int,int,int) IllegalArgumentException
            int day(int,int) IllegalArgumentException
            int together(int,int,int) NoSuchElementException IllegalArgumentException
            int missing()
            int strict(int) IllegalArgumentException
            int binned(int) NoSuchElementException
            int scene(int,int) IllegalArgumentException
            int friend(int,int) NoSuchElementException IllegalArgumentException
            int goesOn(int,int,int,int,int) IllegalArgumentException
            int span(int,int,int,int,int,int,int) IllegalArgumentException
            int image()
            int restore()
            int status(int)
            int kept(int)
            """;

    private int wrong;

    public static void main(String[] args) throws IOException {
        FaceTest test = new FaceTest();
        test.face();
        test.insides();
        test.source(Files.readString(Path.of("src/main/java/SummerPictures.java")));
        System.out.println("FaceTest: " + (test.wrong == 0 ? "all as due" : test.wrong + " wrong"));
        if (test.wrong != 0) {
            System.exit(1);
        }
    }

    private void demand(boolean good, String what) {
        if (!good) {
            wrong++;
            System.out.println(what);
        }
    }

    private void face() {
        Class<?> c = SummerPictures.class;
        Set<String> found = new TreeSet<>();
        for (Method m : c.getDeclaredMethods()) {
            if (!Modifier.isPrivate(m.getModifiers())) {
                found.add(shown(m));
                demand(Modifier.isPublic(m.getModifiers()) && !Modifier.isStatic(m.getModifiers()), m + " is odd");
            }
        }
        Set<String> due = new TreeSet<>(List.of(FACE.split("\n")));
        demand(found.equals(due), "the face is " + found + ", due is " + due);
        demand(Modifier.isFinal(c.getModifiers()) && Modifier.isPublic(c.getModifiers()), "the class");
        Constructor<?>[] made = c.getDeclaredConstructors();
        demand(made.length == 1 && Modifier.isPublic(made[0].getModifiers()) && made[0].getParameterCount() == 0,
                "the constructor");
        for (Field f : c.getDeclaredFields()) {
            boolean isNone = f.getName().equals("NONE");
            demand(isNone ? Modifier.isPublic(f.getModifiers()) : Modifier.isPrivate(f.getModifiers()), f + " is seen");
        }
    }

    private static String shown(Method m) {
        StringBuilder s = new StringBuilder(m.getReturnType().getSimpleName()).append(' ').append(m.getName());
        s.append('(');
        for (Class<?> p : m.getParameterTypes()) {
            s.append(s.charAt(s.length() - 1) == '(' ? "" : ",").append(p.getSimpleName());
        }
        s.append(')');
        for (Class<?> e : m.getExceptionTypes()) {
            s.append(' ').append(e.getSimpleName());
        }
        return s.toString();
    }

    /** Rules 1, 2, 5, 11: names, classes, fields, parameters. */
    private void insides() {
        Set<String> faceNames = new HashSet<>();
        for (Method m : SummerPictures.class.getDeclaredMethods()) {
            if (Modifier.isPublic(m.getModifiers())) {
                faceNames.add(m.getName());
            }
        }
        Class<?>[] inside = SummerPictures.class.getDeclaredClasses();
        demand(inside.length < 12, "too many classes");
        for (Class<?> c : inside) {
            demand(Modifier.isStatic(c.getModifiers()) && !Modifier.isPublic(c.getModifiers()), c + " is odd");
            inspect(c, faceNames);
        }
        inspect(SummerPictures.class, faceNames);
    }

    private void inspect(Class<?> c, Set<String> faceNames) {
        int fields = 0;
        for (Field f : c.getDeclaredFields()) {
            boolean isStatic = Modifier.isStatic(f.getModifiers());
            fields += isStatic ? 0 : 1;
            demand(!isStatic || Modifier.isFinal(f.getModifiers()), f + " is not final");
        }
        demand(fields <= 20, c + " has too many fields");
        for (Method m : c.getDeclaredMethods()) {
            boolean isFace = c == SummerPictures.class && Modifier.isPublic(m.getModifiers());
            demand(isFace || !faceNames.contains(m.getName()), m + " bears a name of the face");
            demand(isFace || m.getParameterCount() <= 7, m + " has too many parameters");
        }
    }

    /** Rules 3, 4, 6, 11: what may not stand in the file, and how long its methods are. */
    private void source(String text) {
        String plain = text.replaceAll("(?s)/\\*.*?\\*/", "").replaceAll("//[^\n]*", "");
        Matcher imports = Pattern.compile("(?m)^import (.*);$").matcher(plain);
        while (imports.find()) {
            demand(imports.group(1).equals("java.util.NoSuchElementException"), "import " + imports.group(1));
        }
        for (String odd : List.of("->", "::", "\\btry\\b", "\\bcatch\\b", "\\bfinally\\b", "\\bassert\\b", "\\bdouble\\b",
                "\\bsynchronized\\b", "\\bpackage\\b", "\\bprotected\\b", "Exact\\(", "\\bString\\[\\]", "\\bSystem\\.out")) {
            demand(!Pattern.compile(odd).matcher(plain).find(), "the file has " + odd);
        }
        demand(text.chars().allMatch(ch -> ch < 127), "the file has signs beyond 127");
        Map<String, Integer> lengths = methodLengths(text);
        lengths.forEach((name, length) -> demand(length <= 60, name + " has " + length + " lines"));
        demand(lengths.size() > 43, "the methods were not found");
    }

    private static Map<String, Integer> methodLengths(String text) {
        Map<String, Integer> lengths = new HashMap<>();
        String[] lines = text.split("\n");
        for (int i = 0; i < lines.length; i++) {
            Matcher head = Pattern.compile("^( {4}| {8})[a-zA-Z].*?(\\w+)\\(.*[^;]$").matcher(lines[i]);
            if (head.find() && !lines[i].contains(" class ") && !lines[i].contains("=")) {
                int end = i;
                while (end < lines.length && !lines[end].equals(head.group(1) + "}")) {
                    end++;
                }
                lengths.put(head.group(2) + " in line " + (i + 1), end - i + 1);
            }
        }
        return lengths;
    }
}
