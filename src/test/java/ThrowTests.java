import java.lang.reflect.Method;
import java.lang.reflect.Modifier;
import java.util.ArrayList;
import java.util.Comparator;
import java.util.List;

/** No call throws, for any arguments in any state (rule 7 of LANGUAGE.md); the 512th call is none of its bounds. */
final class ThrowTests {
    private static final int HOUSES = 12;
    private static final int CALLS = 30000;
    private static final int[] FAR = {Integer.MIN_VALUE, Integer.MIN_VALUE + 1, Integer.MIN_VALUE + 10,
        Integer.MIN_VALUE + 20, -64, -2, 31, 32, 40, 63, 64, 120, 2001, 1 << 30, Integer.MAX_VALUE - 1,
        Integer.MAX_VALUE};

    private final SlipHouse house = new SlipHouse();
    private final List<Method> face = new ArrayList<>();
    private long state;

    private ThrowTests(int seed) {
        state = seed;
        for (Method method : SlipHouse.class.getDeclaredMethods()) {
            if (Modifier.isPublic(method.getModifiers())) {
                face.add(method);
            }
        }
        face.sort(Comparator.comparing(Method::getName));
    }

    static void run() {
        for (int seed = 0; seed < HOUSES; seed++) {
            new ThrowTests(seed).go();
        }
    }

    private int any(int bound) {
        state = state * 6364136223846793005L + 1442695040888963407L;
        return (int) ((state >>> 33) % bound);
    }

    private void go() {
        for (int call = 0; call < CALLS; call++) {
            Method method = face.get(any(face.size()));
            Object[] arguments = new Object[method.getParameterCount()];
            for (int i = 0; i < arguments.length; i++) {
                arguments[i] = method.getName().equals("feed") ? letters() : argument(method.getName());
            }
            try {
                method.invoke(house, arguments);
            } catch (ReflectiveOperationException e) {
                Check.due(method.getName() + " throws " + e.getCause(), true, false);
                return;
            }
        }
        Check.due("a house that was asked for more than it can have", house.count(1), 120);
    }

    private int letters() {
        int four = 0;
        for (int i = 0; i < 4; i++) {
            four = four << 8 | 'a' + any(3);
        }
        return any(60) == 0 ? any(1 << 30) : four;
    }

    private int argument(String call) {
        switch (any(12)) {
            case 0: return FAR[any(FAR.length)];
            case 1: case 2: return SlipHouse.NONE;
            case 3: return any(130);
            case 4: return any(42);
            case 5: return call.equals("book") || call.equals("entry") ? any(2002) : any(14);
            case 6: case 7: return any(9);
            default: return any(3);
        }
    }
}
