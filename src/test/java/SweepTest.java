import java.lang.reflect.Method;
import java.util.Arrays;
import java.util.Map;
import java.util.TreeMap;

/**
 * Every method with the numbers from the edges of all ranges, two of them at a time, in every state, answered by the
 * program and by the model. A call that is not refused and changes something is followed by new objects.
 */
public final class SweepTest {
    private static final int MIN = Integer.MIN_VALUE;
    private static final int MAX = Integer.MAX_VALUE;
    private static final int MOST_CALLS = 512;
    private static final int[] EDGES = {MIN, MIN + 1, -1001, -1000, -999, -998, -2, -1, 0, 1, 2, 3, 4, 5, 6, 7, 8, 9,
        10, 11, 12, 13, 14, 15, 16, 17, 38, 39, 40, 41, 53, 54, 59, 60, 61, 63, 64, 99, 100, 101, 299, 300, 301, 998,
        999, 1000, 1001, MAX - 1, MAX};
    private static final int[][] BESIDE = {{0, 0, 0, 0, 0}, {6, 12, 0, 0, 0}, {1, 7, 7, 7, 7}, {3, 3, 3, 3, 7}};
    private static final Map<String, Method> PROGRAM = new TreeMap<>(Calls.methodsOf(SlotBundler.class));
    private static final Map<String, Method> MODEL = Calls.methodsOf(Model.class);

    private final String state;
    private SlotBundler bundler;
    private Model model;
    private int calls;
    private long answers;
    private long refusals;

    public static void main(String[] args) {
        long answers = 0;
        long refusals = 0;
        for (String state : States.ALL) {
            SweepTest sweep = new SweepTest(state);
            for (Method method : PROGRAM.values()) {
                sweep.tryAll(method);
            }
            answers += sweep.answers;
            refusals += sweep.refusals;
        }
        System.out.println("answers " + answers + ", refusals " + refusals);
        Calls.end("SweepTest");
    }

    private SweepTest(String state) {
        this.state = state;
    }

    private void tryAll(Method method) {
        startAnew();
        int count = method.getParameterCount();
        for (int[] beside : BESIDE) {
            for (int first = 0; first < Math.max(1, count); first++) {
                for (int second = first; second < Math.max(1, count); second++) {
                    tryEdges(method, Arrays.copyOf(beside, count), first, second);
                }
            }
        }
    }

    /** All edges for two of the numbers. */
    private void tryEdges(Method method, int[] numbers, int first, int second) {
        int[] edges = numbers.length == 0 ? new int[] {0} : EDGES;
        for (int one : edges) {
            for (int other : first == second ? new int[] {0} : edges) {
                if (numbers.length > 0) {
                    numbers[first] = one;
                    numbers[second] = first == second ? one : other;
                }
                tryCall(method, numbers);
            }
        }
    }

    private void tryCall(Method method, int[] numbers) {
        if (calls == MOST_CALLS) {
            startAnew();
        }
        calls++;
        answers++;
        long got = Calls.answer(method, bundler, numbers);
        long want = Calls.answer(MODEL.get(method.getName()), model, numbers);
        if (want < 0) {
            refusals++;
        }
        if (got != want) {
            Calls.due("in " + state + ": " + method.getName() + Arrays.toString(numbers), got, want);
            Calls.end("SweepTest");
        }
        if (want >= 0 && changes(method.getName())) {
            startAnew();
        }
    }

    private static boolean changes(String name) {
        return switch (name) {
            case "add", "set", "removeLast", "undo", "addTemplate", "clearTemplates", "pack", "unpack" -> true;
            default -> false;
        };
    }

    private void startAnew() {
        bundler = new SlotBundler();
        model = new Model();
        calls = 0;
        for (Calls.Call call : Calls.parse(state)) {
            calls++;
            call.answer(bundler);
            Calls.answer(MODEL.get(call.method().getName()), model, call.numbers());
        }
    }
}
