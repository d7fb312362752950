import java.lang.reflect.Constructor;
import java.lang.reflect.Field;
import java.lang.reflect.Method;
import java.lang.reflect.Modifier;
import java.util.List;
import java.util.Set;
import java.util.TreeSet;

/** The face is the document's and no more. */
public final class FaceTest {
    private static final String FACE = """
            int feed(int,int,int,int,int)
            int summer(int) IllegalArgumentException
            int law(int) IllegalArgumentException
            int work(int) IllegalArgumentException
            int clocks(int) IllegalArgumentException
            int fault()
            int undo()
            int told(int) IllegalArgumentException
            int picture(int,int) NoSuchElementException IllegalArgumentException
            int person(int,int) NoSuchElementException IllegalArgumentException
            int thought(int) NoSuchElementException
            int would(int,int,int,int,int,int,int,int) IllegalArgumentException
            int favourite()
            int books(int) IllegalArgumentException
            int cost(int) NoSuchElementException
            int swap(int,int) IllegalArgumentException
            boolean isBook(int) IllegalArgumentException
            int heaps(int) IllegalArgumentException
            int doubles(int) NoSuchElementException
            long line(int,int,int) IllegalArgumentException
            int leave(int) IllegalArgumentException
            long knock(int,int,int) IllegalArgumentException
            long often(int,int,int) IllegalArgumentException
            int order(int) IllegalArgumentException
            int ordered(int,int) IllegalArgumentException
            int off(int,int) IllegalArgumentException
            int bestOff()
            long eyes(int,int,int,int) IllegalArgumentException
            int need(int,int,int) IllegalArgumentException
            int day(int,int) IllegalArgumentException
            int together(int,int,int) NoSuchElementException IllegalArgumentException
            int missing()
            int strict(int) IllegalArgumentException
            int binned(int) NoSuchElementException
            int scene(int,int) IllegalArgumentException
            int friend(int,int) NoSuchElementException IllegalArgumentException
            int goesOn(int,int,int,int,int) IllegalArgumentException
            int span(int,int,int,int,int,int,int) IllegalArgumentException
            int image()
            int restore()
            int status(int)
            int kept(int)
            """;

    private int wrong;

    public static void main(String[] args) {
        FaceTest test = new FaceTest();
        test.face();
        System.out.println("FaceTest: " + (test.wrong == 0 ? "all as due" : test.wrong + " wrong"));
        if (test.wrong != 0) {
            System.exit(1);
        }
    }

    private void demand(boolean good, String what) {
        if (!good) {
            wrong++;
            System.out.println(what);
        }
    }

    private void face() {
        Class<?> c = SummerPictures.class;
        Set<String> found = new TreeSet<>();
        for (Method m : c.getDeclaredMethods()) {
            if (!Modifier.isPrivate(m.getModifiers())) {
                found.add(shown(m));
                demand(Modifier.isPublic(m.getModifiers()) && !Modifier.isStatic(m.getModifiers()), m + " is odd");
            }
        }
        Set<String> due = new TreeSet<>(List.of(FACE.split("\n")));
        demand(found.equals(due), "the face is " + found + ", due is " + due);
        demand(Modifier.isFinal(c.getModifiers()) && Modifier.isPublic(c.getModifiers()), "the class");
        Constructor<?>[] made = c.getDeclaredConstructors();
        demand(made.length == 1 && Modifier.isPublic(made[0].getModifiers()) && made[0].getParameterCount() == 0,
                "the constructor");
        for (Field f : c.getDeclaredFields()) {
            boolean isNone = f.getName().equals("NONE");
            demand(isNone ? Modifier.isPublic(f.getModifiers()) : Modifier.isPrivate(f.getModifiers()), f + " is seen");
        }
    }

    private static String shown(Method m) {
        StringBuilder s = new StringBuilder(m.getReturnType().getSimpleName()).append(' ').append(m.getName());
        s.append('(');
        for (Class<?> p : m.getParameterTypes()) {
            s.append(s.charAt(s.length() - 1) == '(' ? "" : ",").append(p.getSimpleName());
        }
        s.append(')');
        for (Class<?> e : m.getExceptionTypes()) {
            s.append(' ').append(e.getSimpleName());
        }
        return s.toString();
    }
}
