import java.lang.reflect.Method;
import java.lang.reflect.Modifier;
import java.util.ArrayList;
import java.util.Collections;
import java.util.HashMap;
import java.util.List;
import java.util.Map;
import java.util.regex.Matcher;
import java.util.regex.Pattern;

/** Runs of calls, written as in the document: "add(0,1,6,0) -> 0, size() -> 1"; without an answer, any will do. */
final class Calls {
    private static final Map<String, Method> METHODS = methodsOf(SlotBundler.class);
    private static final Pattern CALL = Pattern.compile("\\s*(\\w+)\\(([^)]*)\\)(?:\\s*->\\s*(-?\\d+))?\\s*(?:,|$)");
    private static final Map<String, List<Call>> PARSED = new HashMap<>();
    private static int wrong = 0;

    /** A call, and the answer that is due or null. */
    record Call(String text, Method method, int[] numbers, Long due) {
        long answer(SlotBundler bundler) {
            return Calls.answer(method, bundler, numbers);
        }
    }

    private Calls() {
    }

    /** Makes a new object and all calls of the run, and reports each answer that is not the one that is due. */
    static SlotBundler run(String title, String... lines) {
        SlotBundler bundler = new SlotBundler();
        go(title, bundler, lines);
        return bundler;
    }

    /** Makes all calls of the run on an object that there is. */
    static void go(String title, SlotBundler bundler, String... lines) {
        for (Call call : parse(lines)) {
            check(title, bundler, call);
        }
    }

    static void check(String title, SlotBundler bundler, Call call) {
        long got = call.answer(bundler);
        if (call.due() != null) {
            due(title + ": " + call.text(), got, call.due());
        }
    }

    static void due(String title, long got, long want) {
        if (got != want) {
            wrong++;
            System.out.println(title + " answered " + got + ", due is " + want);
        }
    }

    /** The same call that many times, for a run. */
    static String times(int count, String call) {
        return String.join(", ", Collections.nCopies(count, call));
    }

    /** Ends the test: with exit code 1 if an answer was wrong. */
    static void end(String test) {
        System.out.println(test + ": " + (wrong == 0 ? "all answers are as due" : wrong + " wrong"));
        if (wrong != 0) {
            System.exit(1);
        }
    }

    static Map<String, Method> methodsOf(Class<?> type) {
        Map<String, Method> methods = new HashMap<>();
        for (Method method : type.getDeclaredMethods()) {
            if (!Modifier.isPrivate(method.getModifiers())) {
                methods.put(method.getName(), method);
            }
        }
        return methods;
    }

    static long answer(Method method, Object target, int[] numbers) {
        Object[] arguments = new Object[numbers.length];
        for (int k = 0; k < numbers.length; k++) {
            arguments[k] = numbers[k];
        }
        try {
            return ((Number) method.invoke(target, arguments)).longValue();
        } catch (ReflectiveOperationException e) {
            throw new IllegalStateException(method.getName() + " failed", e);
        }
    }

    static List<Call> parse(String... lines) {
        List<Call> calls = new ArrayList<>();
        for (String line : lines) {
            calls.addAll(PARSED.computeIfAbsent(line.strip(), Calls::parseLine));
        }
        return calls;
    }

    private static List<Call> parseLine(String line) {
        List<Call> calls = new ArrayList<>();
        Matcher matcher = CALL.matcher(line);
        int from = 0;
        while (from < line.length()) {
            if (!matcher.find(from) || matcher.start() != from) {
                throw new IllegalArgumentException("no call: " + line.substring(from));
            }
            calls.add(parseCall(matcher.group(1), matcher.group(2).trim(), matcher.group(3)));
            from = matcher.end();
        }
        return calls;
    }

    private static Call parseCall(String name, String list, String due) {
        String[] words = list.isEmpty() ? new String[0] : list.split(",");
        int[] numbers = new int[words.length];
        for (int k = 0; k < words.length; k++) {
            numbers[k] = Integer.parseInt(words[k].trim());
        }
        Method method = METHODS.get(name);
        if (method == null || method.getParameterCount() != numbers.length) {
            throw new IllegalArgumentException("no such call: " + name + "(" + list + ")");
        }
        return new Call(name + "(" + list + ")", method, numbers, due == null ? null : Long.valueOf(due));
    }
}
