/** The boundary cases of promises 27 to 33, "Machine", "Instructions", "Cycles" and "Details", a sentence each. */
public final class MachineEdgeTest {
    private static final int MIN = Integer.MIN_VALUE;
    private static final int MAX = Integer.MAX_VALUE;
    private static final String[] UNPACKED = {States.NEW, States.PROGRAM, States.INCOMPLETE, States.IMPOSSIBLE,
        States.FULL, States.SIXTY};
    /** Two steps and two cycles for each count of register 1, down to 0 by register 2. */
    private static final String COUNTDOWN = "add(2,1,1,2), add(11,0,0,1), addTemplate(1,3,3,1), setRegister(2,1), ";

    public static void main(String[] args) {
        eightRegisters();
        sixteenCells();
        anyInt();
        wrapAround();
        shifts();
        less();
        addresses();
        behindTheLastInstruction();
        aStopIsAStep();
        branches();
        stepsOfRun();
        limitOfRun();
        orderOfRun();
        blocksOfRunBundles();
        limitOfRunBundles();
        orderOfRunBundles();
        beginningOfTheGroup();
        resultsOfLatencies();
        endOfABlock();
        compare();
        limitOfCompare();
        orderOfCompare();
        Calls.end("MachineEdgeTest");
    }

    private static void eightRegisters() {
        for (String state : States.ALL) {
            Twins.refuse("27, a register 0 to 7", state, "setRegister(-1,5) -> -1, setRegister(8,5) -> -1",
                    "setRegister(-2147483648,5) -> -1, setRegister(2147483647,5) -> -1");
        }
        Twins.look("28, Long.MIN_VALUE if there is no such register", States.PACKED,
                "register(-1) -> -9223372036854775808, register(8) -> -9223372036854775808",
                "register(-2147483648) -> -9223372036854775808, register(2147483647) -> -9223372036854775808",
                "register(0) -> 0, register(7) -> -1, register(2) -> 3");
        for (int k = 0; k < 8; k++) {
            SlotBundler bundler = Calls.run("27, register " + k, "setRegister(" + k + ",9) -> 1");
            for (int other = 0; other < 8; other++) {
                Calls.due("28, register " + other + " after " + k, bundler.register(other), other == k ? 9 : 0);
            }
            for (int cell = 0; cell < 16; cell++) {
                Calls.due("30, cell " + cell + " after register " + k, bundler.memory(cell), 0);
            }
        }
    }

    private static void sixteenCells() {
        for (String state : States.ALL) {
            Twins.refuse("29, a memory cell 0 to 15", state, "setMemory(-1,5) -> -1, setMemory(16,5) -> -1",
                    "setMemory(-2147483648,5) -> -1, setMemory(2147483647,5) -> -1");
        }
        Twins.look("30, Long.MIN_VALUE if there is no such cell", States.PACKED,
                "memory(-1) -> -9223372036854775808, memory(16) -> -9223372036854775808",
                "memory(-2147483648) -> -9223372036854775808, memory(2147483647) -> -9223372036854775808",
                "memory(0) -> 7, memory(15) -> 8, memory(1) -> 0");
        for (int k = 0; k < 16; k++) {
            SlotBundler bundler = Calls.run("29, cell " + k, "setMemory(" + k + ",9) -> 1");
            for (int other = 0; other < 16; other++) {
                Calls.due("30, cell " + other + " after " + k, bundler.memory(other), other == k ? 9 : 0);
            }
            for (int register = 0; register < 8; register++) {
                Calls.due("28, register " + register + " after cell " + k, bundler.register(register), 0);
            }
        }
    }

    private static void anyInt() {
        for (int value : new int[] {MIN, MIN + 1, -1000, -1, 0, 1, 1000, MAX - 1, MAX}) {
            Calls.run("27 to 30, any int", "setRegister(0," + value + ") -> 1, register(0) -> " + value,
                    "setRegister(7," + value + ") -> 1, register(7) -> " + value, "setMemory(0," + value + ") -> 1",
                    "memory(0) -> " + value, "setMemory(15," + value + ") -> 1, memory(15) -> " + value);
        }
    }

    /** The result by run and by runBundles. */
    private static void result(String title, int operation, int a, int b, int want) {
        String values = "setRegister(5," + a + "), setRegister(6," + b + "), setRegister(4,77), ";
        String result = "register(4) -> " + want + ", register(5) -> " + a + ", register(6) -> " + b;
        Calls.run(title + ": operation " + operation, "add(" + operation + ",4,5,6), addTemplate(1,2,3,0), " + values,
                "run(1) -> 1", result, values, "pack() -> 1, compare(1) -> 1", "register(4) -> 77",
                "runBundles(1) -> " + (operation == 7 ? 3 : 1), result);
    }

    private static void wrapAround() {
        String title = "Machine: arithmetic wraps around";
        result(title, 1, MAX, 0, MAX);
        result(title, 1, MAX, 1, MIN);
        result(title, 1, MIN, -1, MAX);
        result(title, 1, MIN, MIN, 0);
        result(title, 1, MAX, MAX, -2);
        result(title, 2, MIN, 0, MIN);
        result(title, 2, MIN, 1, MAX);
        result(title, 2, MAX, -1, MIN);
        result(title, 2, 0, MIN, MIN);
        result(title, 2, -1, MIN, MAX);
        result(title, 7, 46340, 46340, 2147395600);
        result(title, 7, 46341, 46341, -2147479015);
        result(title, 7, MIN, -1, MIN);
        result(title, 7, MAX, MAX, 1);
        result(title, 7, 65536, 32768, MIN);
        result(title, 7, 65536, 65536, 0);
        result(title, 3, MIN, MAX, 0);
        result(title, 3, -1, MIN, MIN);
        result(title, 4, MIN, MAX, -1);
        result(title, 4, -1, -1, 0);
    }

    private static void shifts() {
        String title = "Instructions: a >> (b & 31)";
        result(title, 5, -8, 0, -8);
        result(title, 5, -8, 1, -4);
        result(title, 5, MIN, 31, -1);
        result(title, 5, MIN, 30, -2);
        result(title, 5, MAX, 30, 1);
        result(title, 5, MAX, 31, 0);
        result(title, 5, MAX, 32, MAX);
        result(title, 5, MAX, 33, MAX / 2);
        result(title, 5, 64, -1, 0);
        result(title, 5, 64, -32, 64);
        result(title, 5, 64, -31, 32);
        result(title, 5, 64, MIN, 64);
        result(title, 5, 64, MAX, 0);
    }

    private static void less() {
        String title = "Instructions: 1 if a < b, otherwise 0";
        result(title, 6, 0, 0, 0);
        result(title, 6, -1, 0, 1);
        result(title, 6, 0, 1, 1);
        result(title, 6, 1, 0, 0);
        result(title, 6, MIN, MAX, 1);
        result(title, 6, MAX, MIN, 0);
        result(title, 6, MIN, MIN, 0);
        result(title, 6, MAX, MAX, 0);
        result(title, 6, MAX - 1, MAX, 1);
        result(title, 6, MIN, MIN + 1, 1);
    }

    private static void addresses() {
        for (int address : new int[] {0, 1, 14, 15, 16, 17, 31, 32, -1, -15, -16, -17, MIN, MIN + 1, MAX, MAX - 1}) {
            String title = "Machine: a cell is addressed by a & 15, a = " + address;
            int cell = address & 15;
            int other = cell ^ 1;
            Calls.run(title, "add(8,1,3,0), add(9,0,3,4), addTemplate(0,0,0,2), setRegister(3," + address + ")",
                    "setRegister(4,55), setMemory(" + cell + ",44), setMemory(" + other + ",33), run(2) -> 2",
                    "register(1) -> 44, memory(" + cell + ") -> 55, memory(" + other + ") -> 33",
                    "setMemory(" + cell + ",-44), setRegister(4,-55), pack() -> 1, compare(2) -> 1, runBundles(1) -> 2",
                    "register(1) -> -44, memory(" + cell + ") -> -55, memory(" + other + ") -> 33");
        }
    }

    private static void behindTheLastInstruction() {
        String title = "Details: a run that has gone on behind the last instruction has stopped";
        Calls.run(title, "run(0) -> 0, add(0,1,5,0), run(0) -> -7, register(1) -> 0, run(1) -> 1, register(1) -> 5",
                "run(2) -> 1, add(0,2,6,0), run(1) -> -7, register(2) -> 0, run(2) -> 2, register(2) -> 6");
        Calls.run(title + ", by a branch", "add(11,0,0,1), run(0) -> -7, run(1) -> 1, setRegister(1,1), run(1) -> -7",
                "run(300) -> -7");
        SlotBundler bundler = Calls.run(title + " of 40", Calls.times(40, "add(1,1,1,2)"), "setRegister(2,1)");
        Calls.go(title + " of 40", bundler, "run(39) -> -7, register(1) -> 39, run(40) -> 40, register(1) -> 79");
        Calls.run("Details: the same holds for the bundles behind the last block", "pack() -> 0, runBundles(0) -> 0",
                "unpack(), add(0,1,5,0), addTemplate(1,3,3,0), pack() -> 1, runBundles(0) -> -7, register(1) -> 0",
                "runBundles(1) -> 1, register(1) -> 5, runBundles(2) -> 1, unpack(), add(11,0,0,2), pack() -> 1",
                "runBundles(1) -> 1, setRegister(2,1), runBundles(1) -> -7, setRegister(2,0), unpack()",
                "set(1,11,0,2,2), add(0,3,6,0), pack() -> 2, runBundles(1) -> -7, register(3) -> 0, runBundles(2) -> 2",
                "register(3) -> 6");
    }

    private static void aStopIsAStep() {
        Calls.run("31, each of which is a step, also a stop", "add(12,0,0,0), run(0) -> -7, run(1) -> 1, run(2) -> 1",
                "run(300) -> 1, add(0,1,5,0), run(1) -> 1, run(300) -> 1, register(1) -> 0, set(0,0,2,6,0)",
                "add(12,0,0,0), run(2) -> -7, register(1) -> 5, run(3) -> 3, run(4) -> 3");
        Calls.run("32, a stop", "add(12,0,0,0), add(0,1,5,0), addTemplate(1,3,3,0), pack() -> 2, runBundles(0) -> -7",
                "runBundles(1) -> 1, runBundles(100) -> 1, register(1) -> 0, compare(0) -> -7, compare(1) -> 1");
    }

    private static void branches() {
        for (int value : new int[] {0, 1, -1, MIN, MAX}) {
            boolean taken = value != 0;
            Calls.run("Instructions: branch if the value of register b is not 0, " + value, "add(11,0,2,7)",
                    "add(0,1,5,0)",
                    "add(12,0,0,0), addTemplate(1,3,3,0), setRegister(7," + value + "), run(3) -> " + (taken ? 2 : 3),
                    "register(1) -> " + (taken ? 0 : 5), "setRegister(1,0), pack() -> 3",
                    "runBundles(3) -> " + (taken ? 2 : 3), "register(1) -> " + (taken ? 0 : 5));
        }
        Calls.run("Instructions: jump to the instruction a", "add(10,0,2,0), add(10,0,3,0), add(10,0,1,0)",
                "add(0,1,5,0)",
                "addTemplate(1,3,3,0), run(3) -> -7, register(1) -> 0, run(4) -> 4, register(1) -> 5, setRegister(1,0)",
                "pack() -> 4, runBundles(3) -> -7, register(1) -> 0, runBundles(4) -> 4, register(1) -> 5");
        Calls.run("Instructions: jump to itself", "add(10,0,0,0), addTemplate(3,3,3,0), run(0) -> -7, run(300) -> -7",
                "pack() -> 1, runBundles(0) -> -7, runBundles(100) -> -7, compare(0) -> -7, compare(300) -> -7");
        Calls.run("Instructions: from 39 to 0", Calls.times(39, "add(1,1,1,2)"), "add(11,0,0,3), setRegister(2,1)",
                "setRegister(3,1), run(300) -> -7, register(1) -> 293");
    }

    private static void stepsOfRun() {
        for (String state : States.ALL) {
            Twins.refuse("31, steps from 0 to 300", state, "run(-1) -> -2, run(301) -> -2, run(-2147483648) -> -2",
                    "run(2147483647) -> -2");
        }
        Calls.run("31, steps from 0 to 300", COUNTDOWN, "setRegister(1,150), run(300) -> 300, register(1) -> 0",
                "setRegister(1,150), run(299) -> -7, register(1) -> 0, setRegister(1,151), run(300) -> -7",
                "register(1) -> 1, setRegister(1,5), run(0) -> -7, register(1) -> 5, run(10) -> 10");
        Calls.run("31, with a packing and without one", States.PROGRAM, "run(300) -> 6, pack() -> 5, run(300) -> 6",
                "run(5) -> -7, run(6) -> 6, unpack() -> 5, run(6) -> 6");
    }

    private static void limitOfRun() {
        String title = "Details: if the steps do not suffice, registers and memory stay as the steps left them";
        Calls.run(title, "add(0,1,5,0), add(9,0,1,1), add(0,2,6,0), add(9,0,2,2), run(0) -> -7, register(1) -> 0",
                "run(1) -> -7, register(1) -> 5, memory(5) -> 0, run(2) -> -7, memory(5) -> 5, register(2) -> 0",
                "run(3) -> -7, register(2) -> 6, memory(6) -> 0, run(4) -> 4, memory(6) -> 6");
        Calls.run("31, LIMIT changes nothing else", States.PACKED, "run(2) -> -7, bundleCount() -> 5, size() -> 7",
                "templateCount() -> 3, add(12,0,0,0) -> -5, unpack() -> 5, undo() -> 6");
        Calls.run("31, from instruction 0 on", "add(1,1,1,2), add(1,3,3,2), setRegister(2,1), run(1) -> -7",
                "run(1) -> -7",
                "register(1) -> 2, register(3) -> 0");
    }

    private static void orderOfRun() {
        Twins.refuse("31, BAD_VALUE is checked first", States.INCOMPLETE, "run(-1) -> -2, run(301) -> -2");
        Twins.refuse("31, INCOMPLETE is checked second", States.INCOMPLETE, "run(0) -> -6, run(1) -> -6",
                "run(300) -> -6");
        Calls.run("31, complete again", States.INCOMPLETE, "undo() -> 7, run(300) -> 6");
        Twins.look("31, without instructions", States.NEW, "run(0) -> 0, run(300) -> 0");
        Twins.look("31, without instructions", States.EMPTY_PACKED, "run(0) -> 0, run(300) -> 0");
    }

    private static void blocksOfRunBundles() {
        for (String state : States.ALL) {
            Twins.refuse("32, blocks from 0 to 100", state, "runBundles(-1) -> -2, runBundles(101) -> -2",
                    "runBundles(-2147483648) -> -2, runBundles(2147483647) -> -2");
        }
        Calls.run("32, a block counted each time", COUNTDOWN, "pack() -> 1, setRegister(1,100), runBundles(100) -> 200",
                "register(1) -> 0, setRegister(1,100), runBundles(99) -> -7, register(1) -> 1, setRegister(1,101)",
                "runBundles(100) -> -7, register(1) -> 1, runBundles(1) -> 2, register(1) -> 0");
        Twins.look("32, without blocks", States.EMPTY_PACKED, "runBundles(0) -> 0, runBundles(100) -> 0");
        Calls.run("32, the sum of the cycles", States.PACKED, "runBundles(2) -> 8, runBundles(1) -> -7",
                "setRegister(2,0), setMemory(0,0), runBundles(100) -> 8");
    }

    private static void limitOfRunBundles() {
        String title = "32, registers and memory change, also if the blocks do not suffice";
        Calls.run(title, "add(0,1,5,0), add(10,0,2,0), add(9,0,1,1), add(10,0,4,0), add(0,2,6,0)",
                "addTemplate(0,3,3,0), pack() -> 3, runBundles(0) -> -7, register(1) -> 0, runBundles(1) -> -7",
                "register(1) -> 5, memory(5) -> 0, runBundles(2) -> -7, memory(5) -> 5, register(2) -> 0",
                "runBundles(3) -> 3, register(2) -> 6");
        Calls.run("32, LIMIT changes nothing else", States.PACKED, "runBundles(1) -> -7, bundleCount() -> 5",
                "cycles(0) -> 6, unpack() -> 5, undo() -> 6, templateCount() -> 3");
        Calls.run("32, from block 0 on", "add(1,1,1,2), add(10,0,2,0), add(1,3,3,2), addTemplate(1,3,3,0)",
                "setRegister(2,1), pack() -> 2, runBundles(1) -> -7, runBundles(1) -> -7, register(1) -> 2",
                "register(3) -> 0");
    }

    private static void orderOfRunBundles() {
        for (String state : UNPACKED) {
            Twins.refuse("32, BAD_VALUE is checked first", state, "runBundles(-1) -> -2, runBundles(101) -> -2");
            Twins.refuse("32, STATE is checked second", state, "runBundles(0) -> -5, runBundles(100) -> -5");
        }
        Calls.run("32, STATE after unpack", States.PACKED, "unpack() -> 5, runBundles(100) -> -5",
                "runBundles(101) -> -2");
    }

    private static void beginningOfTheGroup() {
        String title = "Cycles: all instructions read registers and memory as they are at the beginning of the group";
        Calls.run(title, "add(1,3,1,2), add(0,1,5,0), addTemplate(1,1,1,0), setRegister(1,7), setRegister(2,8)",
                "pack() -> 1, placeOf(1,2) -> 0, runBundles(1) -> 1, register(3) -> 15, register(1) -> 5");
        Calls.run(title, "add(9,0,1,2), add(0,1,5,0), add(0,2,6,0), addTemplate(0,1,1,0), setRegister(1,7)",
                "setRegister(2,8), pack() -> 1, runBundles(1) -> 1, memory(7) -> 8, memory(5) -> 0, register(2) -> 6");
        Calls.run(title, "add(8,3,1,0), add(9,0,1,2), add(0,1,9,0), addTemplate(0,0,1,0), setRegister(1,7)",
                "setRegister(2,8), setMemory(7,4), setMemory(9,3), pack() -> 1, placeOf(2,2) -> 0, runBundles(1) -> 2",
                "register(3) -> 4, memory(7) -> 8, memory(9) -> 3, register(1) -> 9");
        Calls.run("Details: results of stores are there from the beginning of the next group on", "add(9,0,1,2)",
                "add(8,3,1,0), addTemplate(0,0,0,1), setRegister(1,7), setRegister(2,8), pack() -> 1",
                "placeOf(1,2) -> 1, runBundles(1) -> 3, register(3) -> 8");
    }

    private static void resultsOfLatencies() {
        String title = "Cycles: a result in group g with the latency l is there from the beginning of group g + l on";
        String ready = "setRegister(1,3), setMemory(3,5), ";
        Calls.run(title, ready, "add(7,2,1,1), add(1,3,2,2), addTemplate(2,1,3,4), pack() -> 4, runBundles(1) -> 4",
                "register(2) -> 9, register(3) -> 18");
        Calls.run(title, ready, "add(8,2,1,0), add(1,3,2,2), addTemplate(0,3,3,4), pack() -> 3, runBundles(1) -> 3",
                "register(2) -> 5, register(3) -> 10");
        Calls.run(title, ready, "add(1,2,1,1), add(1,3,2,2), addTemplate(1,3,3,4), pack() -> 2, runBundles(1) -> 2",
                "register(2) -> 6, register(3) -> 12");
        Calls.run("Latencies: both write the same register", ready, "add(7,2,1,1), add(8,2,1,0), add(0,2,4,0)",
                "add(7,2,1,1), add(7,2,2,1), addTemplate(2,0,3,1), addTemplate(0,2,3,4), pack() -> 9",
                "placeOf(1,2) -> 2",
                "placeOf(2,2) -> 4, placeOf(3,2) -> 5, placeOf(4,2) -> 8, compare(5) -> 1, runBundles(1) -> 11",
                "register(2) -> 27");
    }

    private static void endOfABlock() {
        String title = "Cycles: at the end of a block all results are awaited, and then its exit takes effect";
        Calls.run(title, "add(7,1,2,2), add(8,3,2,0), add(10,0,3,0), add(1,4,1,3), addTemplate(2,0,3,0)",
                "setRegister(2,3)",
                "setMemory(3,7), pack() -> 2, cycles(0) -> 3, runBundles(1) -> -7, register(1) -> 9, register(3) -> 7",
                "runBundles(2) -> 4, register(4) -> 16");
        Calls.run("Details: the branch goes by its register as it was at the beginning of its group", "add(0,1,0,0)",
                "add(11,0,3,1), add(12,0,0,0), add(0,2,9,0), addTemplate(1,3,3,1), setRegister(1,1), pack() -> 3",
                "placeOf(1,2) -> 1, runBundles(9) -> 4, register(2) -> 0, compare(9) -> 1");
        Calls.run("Details: the branch waits for its register", "add(7,1,2,2), add(11,0,3,1), add(12,0,0,0)",
                "add(0,3,9,0), addTemplate(2,3,1,4), setRegister(2,2), pack() -> 6, placeOf(1,2) -> 3",
                "runBundles(9) -> 5, register(3) -> 9, setRegister(3,0), setRegister(2,0), runBundles(9) -> 5",
                "register(3) -> 0");
    }

    private static void compare() {
        Twins.look("33, both from the present registers and memory, which stay as they are", States.PACKED,
                "compare(6) -> 1, compare(300) -> 1");
        Twins.look("33, without instructions", States.EMPTY_PACKED, "compare(0) -> 1, compare(300) -> 1");
        Twins.look("33, 40 instructions", States.FULL_PACKED, "compare(40) -> 1, compare(300) -> 1");
        Twins.look("33, 60 bundles", States.SIXTY_PACKED, "compare(21) -> 1, compare(300) -> 1");
        Calls.run("33, from the present registers", COUNTDOWN, "pack() -> 1, setRegister(1,3), compare(6) -> 1",
                "compare(5) -> -7, register(1) -> 3, setRegister(1,2), compare(4) -> 1, compare(3) -> -7",
                "setRegister(1,0), compare(300) -> -7, register(1) -> 0, register(2) -> 1");
        Calls.run("33, from the present memory", "add(8,1,2,0), add(11,0,0,1), addTemplate(0,2,3,4), pack() -> 3",
                "compare(2) -> 1, setMemory(0,1), compare(300) -> -7, setMemory(0,0), compare(2) -> 1",
                "compare(1) -> -7, setRegister(2,-1), compare(2) -> 1, setMemory(15,1), compare(300) -> -7",
                "memory(15) -> 1");
        Calls.run("Details: executed for as many blocks as it needs", "add(10,0,1,0), add(2,1,1,2), add(11,0,1,1)",
                "add(12,0,0,0), add(10,0,2,0), addTemplate(1,3,3,0), setRegister(2,1), pack() -> 5, setRegister(1,149)",
                "compare(300) -> 1, compare(299) -> -7, runBundles(100) -> -7, setRegister(1,150), compare(300) -> -7");
    }

    private static void limitOfCompare() {
        for (String state : States.ALL) {
            Twins.refuse("33, steps from 0 to 300", state, "compare(-1) -> -2, compare(301) -> -2",
                    "compare(-2147483648) -> -2, compare(2147483647) -> -2");
        }
        Twins.refuse("33, LIMIT if the steps did not suffice", States.PACKED, "compare(0) -> -7, compare(1) -> -7",
                "compare(5) -> -7");
        Twins.refuse("33, LIMIT if the steps did not suffice", States.FULL_PACKED, "compare(39) -> -7");
        Twins.refuse("33, LIMIT if the steps did not suffice", States.SIXTY_PACKED, "compare(20) -> -7");
        Calls.run("33, the greatest number of steps", COUNTDOWN, "pack() -> 1, setRegister(1,150), compare(300) -> 1",
                "compare(299) -> -7, setRegister(1,151), compare(300) -> -7, register(1) -> 151");
    }

    private static void orderOfCompare() {
        for (String state : UNPACKED) {
            Twins.refuse("33, BAD_VALUE is checked first", state, "compare(-1) -> -2, compare(301) -> -2");
            Twins.refuse("33, STATE is checked second", state, "compare(0) -> -5, compare(300) -> -5");
        }
        Calls.run("33, STATE after unpack", States.PACKED, "unpack() -> 5, compare(300) -> -5, compare(301) -> -2");
    }
}
