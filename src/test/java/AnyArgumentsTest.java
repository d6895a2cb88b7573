import java.lang.reflect.Array;
import java.lang.reflect.Constructor;
import java.lang.reflect.Field;
import java.lang.reflect.InvocationTargetException;
import java.lang.reflect.Method;
import java.lang.reflect.Modifier;
import java.util.ArrayDeque;
import java.util.ArrayList;
import java.util.Arrays;
import java.util.Collections;
import java.util.Comparator;
import java.util.Deque;
import java.util.IdentityHashMap;
import java.util.List;
import java.util.Set;

/**
 * No call throws by itself, or fails to end, for any arguments in any state, behind the 512th call,
 * too (LANGUAGE.md, rules 6, 7 and 9); and what an object takes of the room of a run (rule 12).
 */
public final class AnyArgumentsTest {

    private static final int OBJECTS = 120;
    private static final int CALLS = 3000;
    // what the document promises an object for
    private static final int MOST_CALLS = 512;
    private static final int ROOM_OBJECTS = 600_000;
    private static final int ROOM_ELEMENTS = 7_300_000;
    private static final int[] WILD = {
        Integer.MIN_VALUE, Integer.MIN_VALUE + 1, -65, -32, -1, 60, 61, 64, 255, 1 << 16, Integer.MAX_VALUE - 1,
        Integer.MAX_VALUE,
    };

    private static int wrong;
    private long random;

    private AnyArgumentsTest(int run) {
        random = run * 104729L + 7;
    }

    public static void main(String[] args) throws ReflectiveOperationException {
        List<Method> face = face();
        for (int run = 0; run < OBJECTS && wrong == 0; run++) {
            new AnyArgumentsTest(run).go(run, face);
        }
        needRoom();
        if (wrong > 0) {
            System.exit(1);
        }
    }

    /** In an order that does not depend on the machine. */
    private static List<Method> face() {
        List<Method> face = new ArrayList<>();
        for (Method method : Latticework.class.getDeclaredMethods()) {
            if (Modifier.isPublic(method.getModifiers())) {
                face.add(method);
            }
        }
        face.sort(Comparator.comparing(Method::getName));
        return face;
    }

    private static void tell(String what) {
        wrong++;
        System.out.println("AnyArgumentsTest: " + what);
    }

    private int below(int bound) {
        random = random * 6364136223846793005L + 1442695040888963407L;
        return (int) Math.floorMod(random >>> 33, (long) bound);
    }

    private int number(int run, int call) {
        int pick = below(run % 4 == 3 ? 4 : 30);
        if (pick == 0) {
            return WILD[below(WILD.length)];
        }
        return pick < 8 ? below(6) : below(Math.min(60, 2 + call / 8));
    }

    private void go(int run, List<Method> face) throws ReflectiveOperationException {
        Latticework program = new Latticework();
        for (int call = 0; call < CALLS && wrong == 0; call++) {
            Method method = face.get(below(face.size()));
            if (call < MOST_CALLS && below(3) > 0) {
                // so that the calls behind the 512th find the object well filled
                String[] filling = {"variable", "term", "term", "equation", "complete", "formula", "formula", "line"};
                String name = filling[below(filling.length)];
                method = face.stream().filter(of -> of.getName().equals(name)).findFirst().orElseThrow();
            }
            Object[] arguments = new Object[method.getParameterCount()];
            for (int i = 0; i < arguments.length; i++) {
                boolean isNumber = method.getParameterTypes()[i] == int.class;
                arguments[i] = isNumber ? (Object) number(run, call) : (Object) (below(2) == 0);
            }
            answer(program, method, arguments);
        }
    }

    private static void answer(Latticework program, Method method, Object[] arguments) throws IllegalAccessException {
        String called = method.getName() + Arrays.toString(arguments);
        try {
            method.invoke(program, arguments);
        } catch (InvocationTargetException e) {
            Throwable thrown = e.getCause();
            if (!Arrays.asList(method.getExceptionTypes()).contains(thrown.getClass())) {
                tell(called + " throws " + thrown + " " + Arrays.toString(thrown.getStackTrace()));
            } else if (thrown.getStackTrace().length > 0
                    && !thrown.getStackTrace()[0].getClassName().startsWith("Latticework")) {
                tell(called + " lets the library throw " + thrown);
            }
        }
    }

    /** A run may make a new object in place of each call, and each call may make an exception. */
    private static void needRoom() throws ReflectiveOperationException {
        Constructor<Latticework> constructor = Latticework.class.getConstructor();
        Set<Object> made = Collections.newSetFromMap(new IdentityHashMap<>());
        Deque<Object> open = new ArrayDeque<>();
        open.add(constructor.newInstance());
        long elements = 0;
        while (!open.isEmpty()) {
            Object object = open.remove();
            if (!made.add(object)) {
                continue;
            }
            for (Object part : partsOf(object)) {
                elements++;
                if (part != null && !(part instanceof Number) && !(part instanceof Boolean)) {
                    open.add(part);
                }
            }
        }
        if ((made.size() + 1L) * MOST_CALLS > ROOM_OBJECTS || elements * MOST_CALLS > ROOM_ELEMENTS) {
            tell("an object takes " + made.size() + " objects and " + elements + " fields and elements");
        }
    }

    private static List<Object> partsOf(Object object) throws IllegalAccessException {
        List<Object> parts = new ArrayList<>();
        if (object.getClass().isArray()) {
            for (int i = 0; i < Array.getLength(object); i++) {
                parts.add(Array.get(object, i));
            }
            return parts;
        }
        for (Field field : object.getClass().getDeclaredFields()) {
            if (!Modifier.isStatic(field.getModifiers())) {
                field.setAccessible(true);
                parts.add(field.get(object));
            }
        }
        return parts;
    }
}
