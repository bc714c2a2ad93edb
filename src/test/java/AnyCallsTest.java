import java.lang.reflect.InvocationTargetException;
import java.lang.reflect.Method;
import java.lang.reflect.Modifier;
import java.util.Arrays;
import java.util.Comparator;
import java.util.Random;

/** Any calls with any arguments: each answers, or throws just what the document names for it. */
public final class AnyCallsTest {
    private static final Random DRAW = new Random(1L);
    private static final String[] TEXTS = {"a+1", "!a", "?a", "@0;$1", "[a<2:@1|b+1:a<2]", "{a=0:a+1|@2:a=3}", "$0;b~c", "@3;!b", "",
        "c^a*b;?d", "[a=0:{b=0:b+1|!c:b=2}|@4:a=0]"};
    private static final int[] EDGES = {0, 1, 2, 3, 5, 6, 7, 8, 10, 11, 19, 20, 24, 59, 60, 500, 501, -1, -8, 2147483647, -2147483648, 1 << 16};

    public static void main(String[] args) throws IllegalAccessException {
        Method[] calls = Arrays.stream(Uncomputery.class.getDeclaredMethods())
                .filter(call -> Modifier.isPublic(call.getModifiers()))
                .sorted(Comparator.comparing(Method::getName)).toArray(Method[]::new);
        for (int i = 0; i < 400; i++) {
            Uncomputery object = new Uncomputery();
            for (int left = 512; left > 0; left--) {
                if (DRAW.nextInt(8) == 0) {
                    left -= sayAny(object);
                }
                anyCall(object, calls[DRAW.nextInt(calls.length)]);
            }
        }
        Script.end("AnyCallsTest");
    }

    private static int sayAny(Uncomputery object) {
        object.wipe();
        String text = TEXTS[DRAW.nextInt(TEXTS.length)];
        Script.type(object, text);
        if (object.procedures() < 6) {
            object.define();
        }
        return text.length() + 3;
    }

    private static Object any(Class<?> type) {
        if (type == boolean.class) {
            return DRAW.nextBoolean();
        }
        if (type == char.class) {
            return DRAW.nextInt(3) > 0 ? (char) ('a' + DRAW.nextInt(9)) : DRAW.nextInt(3) > 0 ? (char) (32 + DRAW.nextInt(96))
                    : (char) DRAW.nextInt(65536);
        }
        return DRAW.nextInt(3) > 0 ? DRAW.nextInt(7) : EDGES[DRAW.nextInt(EDGES.length)];
    }

    private static void anyCall(Uncomputery object, Method call) throws IllegalAccessException {
        Class<?>[] types = call.getParameterTypes();
        Object[] arguments = new Object[types.length];
        for (int i = 0; i < types.length; i++) {
            arguments[i] = any(types[i]);
        }
        String told = "answers";
        try {
            call.invoke(object, arguments);
        } catch (InvocationTargetException e) {
            told = Arrays.asList(call.getExceptionTypes()).contains(e.getCause().getClass()) ? "answers" : e.getCause().toString();
        }
        Script.same(call.getName() + Arrays.toString(arguments), told, "answers");
    }
}
