import java.lang.reflect.Method;
import java.util.Arrays;
import java.util.Map;

/** Long runs of mixed calls, each answered by the program and by the model; the runs are the same each time. */
public final class ModelTest {
    private static final int RUNS = 1000;
    private static final int CALLS = 512;
    private static final Map<String, Method> PROGRAM = Calls.methodsOf(SlotBundler.class);
    private static final Map<String, Method> MODEL = Calls.methodsOf(Model.class);
    private static final String[] LOOKS = {"size", "blockCount", "templateCount", "bundleCount", "emptySlots",
        "codeLength"};

    private SlotBundler bundler = new SlotBundler();
    private Model model = new Model();
    private long seed;
    private int run;
    private int calls;
    private int registers;
    private static int packings = 0;
    private static int impossible = 0;
    private static int fullPackings = 0;
    private static int equalEnds = 0;
    private static int leasts = 0;

    public static void main(String[] args) {
        for (int run = 1; run <= RUNS; run++) {
            new ModelTest(run).go();
        }
        System.out.println("packings " + packings + ", impossible " + impossible + ", of 50 bundles and more "
                + fullPackings + ", comparisons that ended " + equalEnds + ", least numbers " + leasts);
        Calls.due("enough packings (1 is yes)", packings > RUNS && impossible > RUNS / 4 ? 1 : 0, 1);
        Calls.due("enough large packings (1 is yes)", fullPackings > RUNS / 20 ? 1 : 0, 1);
        Calls.due("enough comparisons and least numbers (1 is yes)", equalEnds > RUNS && leasts > RUNS ? 1 : 0, 1);
        Calls.end("ModelTest");
    }

    private ModelTest(int run) {
        this.run = run;
        this.seed = run * 7919L + 13;
    }

    private void go() {
        registers = 2 + below(7);
        while (calls < CALLS - 130) {
            if (below(8) == 0) {
                writeSlowProgram();
            } else {
                writeProgram();
                writeTemplates();
            }
            strayCalls(below(15));
            lookAtBlocks();
            usePacking();
            strayCalls(below(10));
            call("unpack");
            while (below(3) == 0) call("undo");
            if (below(3) != 0) call("clearTemplates");
        }
    }

    private void writeProgram() {
        int wanted = below(4) == 0 ? below(46) : below(14);
        for (int k = below(wanted + 1); k < wanted; k++) {
            addInstruction(wanted);
        }
        while (below(4) == 0) call("removeLast");
        if (model.blockCount() < 0 && below(4) != 0) {
            while (model.size() < 40 && model.blockCount() < 0) addInstruction(1);
        }
    }

    /** A chain of multiplications, which needs about 60 bundles. */
    private void writeSlowProgram() {
        while (model.size() > 0) call("removeLast");
        call("clearTemplates");
        call("addTemplate", 0, 2, 3, 1 << below(3));
        if (below(3) == 0) call("addTemplate", 2, below(4), below(4), 1 << below(3));
        int wanted = 17 + below(6);
        for (int k = 0; k < wanted; k++) {
            call("add", below(6) == 0 ? 8 : 7, 1, 1, 0);
        }
        while (below(3) != 0) call("add", below(2) * 12, 0, 0, 0);
    }

    private void addInstruction(int wanted) {
        int operation = below(10) < 8 ? below(10) : below(13);
        int[] one = instruction(operation, Math.max(wanted, model.size()));
        if (below(5) == 0 && model.size() > 0) {
            call("set", below(model.size()), one[0], one[1], one[2], one[3]);
        } else {
            call("add", one);
        }
    }

    private int[] instruction(int operation, int targets) {
        int d = below(registers) % 8;
        int a = below(registers) % 8;
        int b = below(registers) % 8;
        if (below(40) == 0) return new int[] {operation, below(10) - 1, below(44) - 2, below(10) - 1};
        switch (operation) {
            case 0: return new int[] {0, d, below(6) == 0 ? below(2100) - 1050 : below(5) - 1, 0};
            case 8: return new int[] {8, d, a, 0};
            case 9: return new int[] {9, 0, a, b};
            case 10: return new int[] {10, 0, below(targets + 1), 0};
            case 11: return new int[] {11, 0, below(targets + 1), b};
            case 12: return new int[] {12, 0, 0, 0};
            default: return new int[] {operation, d, a, b};
        }
    }

    private void writeTemplates() {
        int wanted = below(5);
        for (int k = 0; k < wanted; k++) {
            call("addTemplate", below(4), below(4), below(4), below(6) == 0 ? 0 : below(8));
        }
        if (below(3) != 0) {
            call("addTemplate", 0, 2, 3, 1 + below(7));
            if (below(2) == 0) call("addTemplate", 0, 1, 1, 1 + below(7));
        }
        if (below(20) == 0) call("addTemplate", below(6) - 1, below(6) - 1, below(6) - 1, below(10) - 1);
    }

    private void lookAtBlocks() {
        int size = model.size();
        for (int k = 0; k < 6 && size > 1; k++) {
            int i = below(size);
            call("distance", i, Math.min(size - 1, i + 1 + below(4)));
            call("blockOf", i);
        }
        call("blockBegin", below(size + 1));
        int least = call("least", below(Math.max(1, model.blockCount())), 2 + below(3));
        if (least > 0) leasts++;
    }

    private void usePacking() {
        int bundles = call("pack");
        if (bundles == -8) impossible++;
        if (bundles < 0) return;
        packings++;
        if (bundles >= 50) fullPackings++;
        for (String look : LOOKS) call(look);
        for (int k = 0; k < 8; k++) {
            call("bundle", below(bundles + 1), below(5));
            call("placeOf", below(model.size() + 1), below(3));
            call("code", below(model.codeLength() + 1));
        }
        int block = below(model.blockCount() + 1);
        call("cycles", block);
        call("codeIndex", block);
        for (int k = 0; k < 3; k++) {
            call("setRegister", below(8), below(2) == 0 ? below(5) : (int) next());
            call("setMemory", below(16), below(2) == 0 ? below(5) : (int) next());
        }
        int equal = call("compare", below(3) == 0 ? below(30) : 300);
        if (equal >= 0) equalEnds++;
        Calls.due("run " + run + ": both ends are equal", equal == 0 ? 0 : 1, 1);
        call(below(2) == 0 ? "run" : "runBundles", below(2) == 0 ? below(12) : 100);
        lookAtMachine();
    }

    private void lookAtMachine() {
        for (int k = 0; k < 8; k++) call("register", k);
        for (int k = 0; k < 6; k++) call("memory", below(16));
    }

    private void strayCalls(int count) {
        for (int k = 0; k < count; k++) {
            strayCall();
        }
    }

    private void strayCall() {
        int size = model.size();
        switch (below(16)) {
            case 0: call("add", below(15) - 1, below(10) - 1, below(12) - 2, below(10) - 1); break;
            case 1: call("set", below(size + 2) - 1, below(13), below(8), below(8), below(8)); break;
            case 2: call("part", below(size + 2) - 1, below(6) - 1); break;
            case 3: call("undo"); break;
            case 4: call("blockOf", below(size + 2) - 1); break;
            case 5: call("blockBegin", below(12) - 1); break;
            case 6: call("distance", below(size + 2) - 1, below(size + 2) - 1); break;
            case 7: call("template", below(10) - 1, below(6) - 1); break;
            case 8: call("bundle", below(20) - 1, below(7) - 1); break;
            case 9: call("placeOf", below(size + 2) - 1, below(5) - 1); break;
            case 10: call("least", below(8) - 1, below(7) - 1); break;
            case 11: call("code", below(30) - 1); break;
            case 12: call("run", below(320) - 5); break;
            case 13: call("runBundles", below(110) - 5); break;
            case 14: call("compare", below(320) - 5); break;
            default: call(below(2) == 0 ? "cycles" : "codeIndex", below(12) - 1); break;
        }
    }

    private int call(String name, int... numbers) {
        if (calls == CALLS) return -100;
        calls++;
        long want = Calls.answer(MODEL.get(name), model, numbers);
        long got = Calls.answer(PROGRAM.get(name), bundler, numbers);
        if (got != want) {
            Calls.due("run " + run + ", call " + calls + ": " + name + Arrays.toString(numbers), got, want);
            Calls.end("ModelTest");
        }
        return (int) want;
    }

    private long next() {
        seed = seed * 6364136223846793005L + 1442695040888963407L;
        return seed >>> 24;
    }

    private int below(int bound) {
        return (int) (next() % bound);
    }
}
