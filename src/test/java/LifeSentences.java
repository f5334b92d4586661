import java.lang.reflect.InvocationTargetException;
import java.lang.reflect.Method;
import java.lang.reflect.Modifier;
import java.util.Arrays;
import java.util.Comparator;

/** How long an object is used: "What it is" in the document, its last sentence. */
final class LifeSentences {
    private static final int CALLS = 512;
    private static final int LATER_CALLS = 100000;
    private static final int[] WILD = {0, 1, -1, 2, 15, 16, 24, 60, 100, 255, 999, 1000000, Integer.MAX_VALUE,
        Integer.MIN_VALUE};

    private final Sentences doc;
    private final Method[] methods;
    private long seed;

    LifeSentences(Sentences doc) {
        this.doc = doc;
        methods = Arrays.stream(CounterBraid.class.getDeclaredMethods())
                .filter(method -> Modifier.isPublic(method.getModifiers()))
                .sorted(Comparator.comparing(Method::getName)).toArray(Method[]::new);
    }

    void all() {
        doc.from("What it is");
        doc.says("An object is used for at most 512 calls after it has been made;");
        for (Method method : methods) {
            dueInCalls(method, 100);
            dueInCalls(method, 12);
            dueInCalls(method, 0);
        }
        CounterBraid x = new CounterBraid();
        x.addFlow(7);
        for (int call = 2; call <= CALLS; call++) {
            doc.due("count(0, 0, 1000000), call " + call, x.count(0, 0, 1000000), (call - 1) * 1000000L);
        }

        doc.says("what later calls answer is free.");
        for (int run = 0; run < 5; run++) {
            doc.due("later calls that throw, run " + run, laterCallsThatThrow(run), 0);
        }
    }

    /** Each of 512 calls answers as the model's does; of a hundred so many are any method's, the others are this one's. */
    private void dueInCalls(Method method, int othersInHundred) {
        CounterBraid x = new CounterBraid();
        Model model = new Model();
        seed = method.getName().hashCode() + othersInHundred;
        for (int call = 1; call <= CALLS; call++) {
            boolean isOther = call < CALLS && pick(100) < othersInHundred;
            Method next = isOther ? methods[pick(methods.length)] : method;
            Object[] arguments = arguments(next, false);
            String name = next.getName() + Arrays.toString(arguments) + ", call " + call;
            doc.due(name, call(next, x, arguments), call(inModel(next), model, arguments));
        }
    }

    private long laterCallsThatThrow(int run) {
        CounterBraid x = new CounterBraid();
        seed = run;
        long thrown = 0;
        for (int call = 1; call <= LATER_CALLS; call++) {
            Method next = methods[pick(methods.length)];
            try {
                call(next, x, arguments(next, true));
            } catch (IllegalStateException e) {
                thrown++;
            }
        }
        return thrown;
    }

    private int pick(int below) {
        seed = seed * 6364136223846793005L + 1442695040888963407L;
        return (int) ((seed >>> 33) % below);
    }

    /** Small numbers mostly, so that most calls have no error; wild ones come often or now and then. */
    private Object[] arguments(Method method, boolean isOftenWild) {
        Class<?>[] types = method.getParameterTypes();
        Object[] arguments = new Object[types.length];
        for (int i = 0; i < types.length; i++) {
            int number = pick(isOftenWild ? 4 : 40) == 0 ? WILD[pick(WILD.length)] : pick(i == 0 ? 2 : 4);
            arguments[i] = types[i] == boolean.class ? (Object) (number % 2 == 0) : (Object) number;
        }
        if (method.getName().equals("type")) {
            arguments[0] = isOftenWild ? arguments[0] : (Object) (int) "07;+ 1".charAt(pick(6));
        } else if (method.getName().equals("setFirst") || method.getName().equals("addFlow")) {
            arguments[0] = (int) arguments[0] + 2 * pick(10);
        }
        return arguments;
    }

    private static Method inModel(Method method) {
        try {
            return Model.class.getDeclaredMethod(method.getName(), method.getParameterTypes());
        } catch (NoSuchMethodException e) {
            throw new IllegalArgumentException(e);
        }
    }

    private static long call(Method method, Object object, Object[] arguments) {
        try {
            return ((Number) method.invoke(object, arguments)).longValue();
        } catch (IllegalAccessException | InvocationTargetException e) {
            throw new IllegalStateException(method.getName() + Arrays.toString(arguments), e);
        }
    }
}
