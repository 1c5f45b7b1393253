import java.lang.reflect.InvocationTargetException;
import java.lang.reflect.Method;
import java.lang.reflect.Modifier;
import java.util.Arrays;
import java.util.Comparator;
import java.util.NoSuchElementException;
import java.util.Random;

/**
 * Any ints, in any state, far behind the 512th call too: no call throws, but for value what it may throw.
 * What is answered there is free, so only what is thrown is looked at.
 */
public final class WildTest {
    private static final int[] EDGES = {Integer.MIN_VALUE, Integer.MIN_VALUE + 1, -1_000_001, -201, -200, -1, 0, 1,
        2, 5, 6, 19, 20, 21, 59, 60, 61, 90, 91, 99, 100, 101, 119, 120, 121, 200, 201, 500, 501, 1_000, 1_001,
        1_000_000, 1_000_001, Integer.MAX_VALUE - 1, Integer.MAX_VALUE};
    private static final String SIGNS = " dl()+-*/0123456789";
    private static final int RUNS = 60;
    private static final int CALLS = 4_000;

    private final Random random;
    private final ScaleHouse house = new ScaleHouse();
    private final Method[] face;

    private WildTest(int seed, Method[] face) {
        random = new Random(seed);
        this.face = face;
    }

    public static void main(String[] args) throws Exception {
        Method[] face = Arrays.stream(ScaleHouse.class.getDeclaredMethods())
                .filter(m -> Modifier.isPublic(m.getModifiers()))
                .sorted(Comparator.comparing(Method::getName)).toArray(Method[]::new);
        Due.is("calls of the face", face.length, 25);
        for (int seed = 0; seed < RUNS; seed++) {
            WildTest test = new WildTest(seed, face);
            for (int i = 0; i < CALLS; i++) {
                test.callOne();
            }
        }
        Due.close("WildTest");
    }

    private void callOne() throws IllegalAccessException {
        if (random.nextInt(12) == 0) {
            Due.law(house, text(), random.nextInt(3));
            return;
        }
        Method call = face[random.nextInt(face.length)];
        Object[] with = new Object[call.getParameterCount()];
        for (int i = 0; i < with.length; i++) {
            with[i] = someInt();
        }
        boolean asDue = true;
        String thrown = "nothing";
        try {
            call.invoke(house, with);
        } catch (InvocationTargetException e) {
            thrown = e.getCause().toString();
            asDue = call.getName().equals("value") && e.getCause().getClass() == NoSuchElementException.class;
        }
        Due.yes(call.getName() + Arrays.toString(with) + " throws " + thrown, asDue);
    }

    private int someInt() {
        switch (random.nextInt(8)) {
            case 0:
                return random.nextInt();
            case 1:
                return EDGES[random.nextInt(EDGES.length)];
            case 2:
                return random.nextInt(100);
            default:
                return random.nextInt(6);
        }
    }

    private String text() {
        StringBuilder text = new StringBuilder("(".repeat(random.nextInt(10)));
        for (int parts = random.nextInt(8); parts > 0; parts--) {
            text.append("dl09".charAt(random.nextInt(4))).append("+-*/".charAt(random.nextInt(4)));
        }
        text.append(99_999).append(")".repeat(random.nextInt(10)));
        if (random.nextInt(3) == 0) {
            text.setCharAt(random.nextInt(text.length()), SIGNS.charAt(random.nextInt(SIGNS.length())));
        }
        return text.toString();
    }
}
