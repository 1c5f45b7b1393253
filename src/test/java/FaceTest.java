import java.lang.reflect.Constructor;
import java.lang.reflect.Field;
import java.lang.reflect.Method;
import java.lang.reflect.Modifier;
import java.nio.file.Files;
import java.nio.file.Path;
import java.util.Arrays;
import java.util.NoSuchElementException;
import java.util.Set;
import java.util.TreeSet;

/** Promise 1 and the face, with those rules of LANGUAGE.md that can be seen from outside. */
public final class FaceTest {
    private static final String[] FACE = {
        "int feed(int,int,int,int,int)", "boolean end(int)", "int fault()", "int law(int)",
        "long value(int,int,int)", "int force(int,int)", "int most(int,int)",
        "boolean error(int,int,int)", "int log(int,int,int,int)", "boolean defects(int,int,int)",
        "int scale(int,int)", "int sum(int,int)", "boolean price(int,int)", "int day()",
        "int line(int,int)", "boolean check(int,int)", "long habit(int,int)", "int row(int,int,int)",
        "void clear()", "boolean allow(int,int)", "int pairs()", "int pair(int)", "boolean near(int)",
        "int judge(int,int,int)", "int count(int)"};

    public static void main(String[] args) throws Exception {
        methods();
        fieldsAndConstructor();
        classesInside();
        words();
        newObject();
        Due.close("FaceTest");
    }

    private static void methods() {
        Set<String> found = new TreeSet<>();
        Set<String> names = new TreeSet<>();
        for (Method m : ScaleHouse.class.getDeclaredMethods()) {
            if (Modifier.isPublic(m.getModifiers())) {
                found.add(face(m));
                names.add(m.getName());
            }
        }
        Set<String> want = new TreeSet<>(Arrays.asList(FACE));
        Due.yes("public methods " + found, found.equals(want));
        for (Method m : ScaleHouse.class.getDeclaredMethods()) {
            boolean hidden = Modifier.isPrivate(m.getModifiers()) && !names.contains(m.getName());
            Due.yes("method " + m, hidden || want.contains(face(m)));
            boolean mayThrow = m.getName().equals("value");
            Due.yes(m + " says what it throws", Arrays.equals(m.getExceptionTypes(),
                    mayThrow ? new Class<?>[] {NoSuchElementException.class} : new Class<?>[0]));
        }
    }

    private static String face(Method m) {
        StringBuilder text = new StringBuilder(m.getReturnType() + " " + m.getName() + "(");
        for (int i = 0; i < m.getParameterCount(); i++) {
            text.append(i == 0 ? "" : ",").append(m.getParameterTypes()[i]);
        }
        return text.append(")").toString();
    }

    private static void fieldsAndConstructor() {
        Due.is("NONE", ScaleHouse.NONE, -1);
        for (Field f : ScaleHouse.class.getDeclaredFields()) {
            Due.yes("field " + f, f.getName().equals("NONE") || Modifier.isPrivate(f.getModifiers()));
        }
        Constructor<?>[] made = ScaleHouse.class.getDeclaredConstructors();
        Due.is("constructors", made.length, 1);
        Due.is("its parameters", made[0].getParameterCount(), 0);
        Due.yes("the class is public", Modifier.isPublic(ScaleHouse.class.getModifiers()));
        Due.yes("the class is final", Modifier.isFinal(ScaleHouse.class.getModifiers()));
    }

    private static void classesInside() {
        Due.yes("at most twelve classes", ScaleHouse.class.getDeclaredClasses().length <= 11);
        plain(ScaleHouse.class);
        for (Class<?> c : ScaleHouse.class.getDeclaredClasses()) {
            Due.yes(c + " is static", Modifier.isStatic(c.getModifiers()));
            Due.no(c + " is public", Modifier.isPublic(c.getModifiers()));
            plain(c);
        }
    }

    private static void plain(Class<?> c) {
        int own = 0;
        for (Field f : c.getDeclaredFields()) {
            boolean isStatic = Modifier.isStatic(f.getModifiers());
            own += isStatic ? 0 : 1;
            Due.yes(f + " is static and not final", !isStatic || Modifier.isFinal(f.getModifiers()));
        }
        Due.yes(c + " has at most twenty fields", own <= 20);
        for (Method m : c.getDeclaredMethods()) {
            Due.yes(m + " takes at most seven", m.getParameterCount() <= 7);
            boolean known = Arrays.stream(FACE).anyMatch(f -> f.contains(" " + m.getName() + "("));
            Due.yes(m + " bears no name of the face", c == ScaleHouse.class || !known);
        }
    }

    /** Words that LANGUAGE.md rules out wherever they stand. */
    private static void words() throws Exception {
        String text = Files.readString(Path.of("src/main/java/ScaleHouse.java"));
        String[] ruledOut = {"::", "finally", "synchronized", "assert ", "Exact(", "package ", "static {",
            "HashMap", "Thread", "Random", "ArrayIndexOutOfBounds", "NullPointer", "ClassCast",
            "NegativeArraySize", "ArrayStore", "Throwable", "catch (Exception", "System.out", "getMessage"};
        for (String word : ruledOut) {
            Due.no("the program has " + word, text.contains(word));
        }
    }

    private static void newObject() {
        ScaleHouse house = new ScaleHouse();
        for (int what = 0; what <= 10; what++) {
            Due.is("new: count(" + what + ")", house.count(what), what == 8 ? -1 : 0);
        }
        Due.is("new: count(11)", house.count(11), -1);
        Due.is("new: count(-1)", house.count(-1), -1);
        Due.is("new: fault()", house.fault(), 0);
        Due.is("new: force(500, 0)", house.force(500, 0), -1);
        Due.is("new: most(0, 0)", house.most(0, 0), -1);
        Due.noValue(house, 0, 0, 0);
        Due.is("new: scale(0, 0)", house.scale(0, 0), -1);
        Due.is("new: sum(0, 0)", house.sum(0, 0), 0);
        Due.is("new: line(0, 0)", house.line(0, 0), -1_000_000_000);
        Due.is("new: habit(0, 0)", house.habit(0, 0), -1);
        Due.is("new: pairs()", house.pairs(), 0);
        Due.is("new: pair(0)", house.pair(0), -1);
        house.log(0, 0, 1, 1);
        ScaleHouse second = new ScaleHouse();
        Due.is("a second object's count(2)", second.count(2), 0);
    }
}
