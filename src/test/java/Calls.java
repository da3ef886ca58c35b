import java.lang.reflect.Method;
import java.lang.reflect.Modifier;
import java.util.HashMap;
import java.util.Map;

/** Runs of calls, written as in the document: "add(0,1,6,0) -> 0, size() -> 1". */
final class Calls {
    private static final Map<String, Method> METHODS = methodsOf(SlotBundler.class);
    private static int wrong = 0;

    private Calls() {
    }

    /** Makes a new object and all calls of the run, and reports each answer that is not the one that is due. */
    static void run(String title, String... lines) {
        SlotBundler bundler = new SlotBundler();
        String joined = String.join(", ", lines);
        for (String call : joined.split(",(?![^(]*\\))")) {
            check(title, bundler, call.trim());
        }
    }

    static void due(String title, long got, long want) {
        if (got != want) {
            wrong++;
            System.out.println(title + " answered " + got + ", due is " + want);
        }
    }

    /** Ends the test: with exit code 1 if an answer was wrong. */
    static void end(String test) {
        System.out.println(test + ": " + (wrong == 0 ? "all answers are as due" : wrong + " wrong"));
        if (wrong != 0) {
            System.exit(1);
        }
    }

    static Map<String, Method> methodsOf(Class<?> type) {
        Map<String, Method> methods = new HashMap<>();
        for (Method method : type.getDeclaredMethods()) {
            if (!Modifier.isPrivate(method.getModifiers())) {
                methods.put(method.getName(), method);
            }
        }
        return methods;
    }

    static long answer(Method method, Object target, int[] numbers) {
        Object[] arguments = new Object[numbers.length];
        for (int k = 0; k < numbers.length; k++) {
            arguments[k] = numbers[k];
        }
        try {
            return ((Number) method.invoke(target, arguments)).longValue();
        } catch (ReflectiveOperationException e) {
            throw new IllegalStateException(method.getName() + " failed", e);
        }
    }

    private static void check(String title, SlotBundler bundler, String call) {
        int open = call.indexOf('(');
        int close = call.indexOf(')');
        int arrow = call.indexOf("->");
        Method method = METHODS.get(call.substring(0, open));
        String list = call.substring(open + 1, close).trim();
        String[] words = list.isEmpty() ? new String[0] : list.split(",");
        int[] numbers = new int[words.length];
        for (int k = 0; k < words.length; k++) {
            numbers[k] = Integer.parseInt(words[k].trim());
        }
        long want = Long.parseLong(call.substring(arrow + 2).trim());
        due(title + ": " + call.substring(0, close + 1), answer(method, bundler, numbers), want);
    }
}
