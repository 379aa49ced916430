import java.lang.reflect.InvocationTargetException;
import java.lang.reflect.Method;
import java.lang.reflect.Modifier;
import java.util.ArrayList;
import java.util.Comparator;
import java.util.List;
import java.util.NoSuchElementException;
import java.util.Random;

/** Whatever the arguments and the state, no call throws but person, and that only what is promised. */
public final class AnyArgumentsTest {
    private static final int[] EDGES = {Integer.MIN_VALUE, Integer.MAX_VALUE, -2, -1, 0, 1, 2, 3, 4, 5, 6, 7, 8, 20, 23,
        24, 25, 30, 31, 60, 61, 99, 100, 200, 201, 600, 601, 9999, 10000, 99999};
    private static final String[] TEXTS = {"", NowTest.HOUSE,
        "room a 400 99 99;room b 0 0 0;room c 1 1 1;room d 2 2 2;room e 3 3 3;person a e 40 5 23;person b a 0 0 0;"
            + "person c b 20 3 4;person d c 21 4 4;person e d 19 5 4;sun a 1 99;sun a 1 99;sun a 1 99;sun b 2 9;"
            + "out 400;out 0;out 399;knob 30 e;price 99;law lose warm*warm*warm*warm*warm/hour;"
            + "law turn (hour - 12)*9999*9999*9999/(felt - wish);law cross wish*wish/(set-200);",
        "law lose 1;law turn 2;law cross 3;out 9;price 0;"};

    private static Object any(Class<?> type, Random random) {
        if (type == boolean.class) {
            return random.nextBoolean();
        }
        int which = random.nextInt(8);
        if (which == 0) {
            return random.nextInt();
        }
        return which < 4 ? EDGES[random.nextInt(EDGES.length)] : random.nextInt(which == 4 ? 100 : 5);
    }

    private static boolean isPromised(Method method, Throwable thrown) {
        return method.getName().equals("person") && thrown.getStackTrace()[0].getMethodName().equals("person")
            && (thrown.getClass() == IndexOutOfBoundsException.class || thrown.getClass() == NoSuchElementException.class);
    }

    private static void call(KnobHall hall, Method method, Random random) throws IllegalAccessException {
        Class<?>[] types = method.getParameterTypes();
        Object[] arguments = new Object[types.length];
        for (int i = 0; i < types.length; i++) {
            arguments[i] = any(types[i], random);
        }
        try {
            method.invoke(hall, arguments);
            Hall.due(method.getName(), 0, 0);
        } catch (InvocationTargetException e) {
            String what = method.getName() + java.util.Arrays.toString(arguments) + " threw " + e.getCause();
            Hall.due(what, isPromised(method, e.getCause()), true);
        }
    }

    public static void main(String[] args) throws Exception {
        List<Method> methods = new ArrayList<>();
        for (Method method : KnobHall.class.getDeclaredMethods()) {
            if (Modifier.isPublic(method.getModifiers())) {
                methods.add(method);
            }
        }
        methods.sort(Comparator.comparing(Method::getName));
        for (int run = 0; run < 200; run++) {
            Random random = new Random(run);
            KnobHall hall = new KnobHall();
            Hall.tell(hall, TEXTS[run % TEXTS.length]);
            for (int i = 0; i < 512; i++) {
                Method method = methods.get(random.nextInt(methods.size()));
                // An empty text would soon take the house's place.
                if (!method.getName().equals("text") || random.nextInt(40) == 0) {
                    call(hall, method, random);
                }
            }
        }
        Hall.end();
    }
}
