/** Promises 27 to 33: setRegister, register, setMemory, memory, run, runBundles, compare. */
public final class MachineTest {
    private static final int MIN = Integer.MIN_VALUE;
    private static final int MAX = Integer.MAX_VALUE;
    /** Counts register 1 down from 3; three blocks of 1, 2 and 2 cycles. */
    private static final String LOOP = "add(0,1,3,0) -> 0, add(0,2,1,0) -> 1, add(2,1,1,2) -> 2, add(11,0,2,1) -> 3, "
            + "add(12,0,0,0) -> 4, addTemplate(0,1,3,2) -> 0";

    public static void main(String[] args) {
        registers();
        cells();
        calculations();
        addresses();
        exits();
        stepsOfRun();
        runRefusals();
        blocksOfRunBundles();
        groupsOfRunBundles();
        runBundlesRefusals();
        comparing();
        comparingOfManyBlocks();
        compareRefusals();
        Calls.end("MachineTest");
    }

    private static void registers() {
        SlotBundler bundler = new SlotBundler();
        for (int k = 0; k < 8; k++) {
            Calls.due("27, register " + k, bundler.setRegister(k, k % 2 == 0 ? MIN + k : MAX - k), 1);
        }
        for (int k = 0; k < 8; k++) {
            Calls.due("28, register " + k, bundler.register(k), k % 2 == 0 ? MIN + k : MAX - k);
        }
        for (int bad : new int[] {-1, 8, 15, MIN, MAX}) {
            Calls.due("27, register " + bad, bundler.setRegister(bad, 5), -1);
            Calls.due("28, register " + bad, bundler.register(bad), Long.MIN_VALUE);
        }
        Calls.due("30, no cell has changed", bundler.memory(3), 0);
        Calls.run("27, while there is a packing", "pack() -> 0, setRegister(0,-1) -> 1, register(0) -> -1");
    }

    private static void cells() {
        SlotBundler bundler = new SlotBundler();
        for (int k = 0; k < 16; k++) {
            Calls.due("29, cell " + k, bundler.setMemory(k, k % 2 == 0 ? MIN + k : MAX - k), 1);
        }
        for (int k = 0; k < 16; k++) {
            Calls.due("30, cell " + k, bundler.memory(k), k % 2 == 0 ? MIN + k : MAX - k);
        }
        for (int bad : new int[] {-1, 16, MIN, MAX}) {
            Calls.due("29, cell " + bad, bundler.setMemory(bad, 5), -1);
            Calls.due("30, cell " + bad, bundler.memory(bad), Long.MIN_VALUE);
        }
        Calls.due("28, no register has changed", bundler.register(3), 0);
        Calls.run("29, while there is a packing", "pack() -> 0, setMemory(0,-1) -> 1, memory(0) -> -1");
    }

    private static void calculations() {
        result(1, 5, -7, -2);
        result(1, MAX, 1, MIN);
        result(2, 5, -7, 12);
        result(2, MIN, 1, MAX);
        result(3, 12, 10, 8);
        result(3, -1, MIN, MIN);
        result(4, 12, 10, 6);
        result(4, -1, MAX, MIN);
        result(5, -8, 1, -4);
        result(5, 40, 3, 5);
        result(5, 5, 33, 2);
        result(5, 5, 32, 5);
        result(5, MAX, -1, 0);
        result(5, MIN, 31, -1);
        result(6, -1, 0, 1);
        result(6, 0, 0, 0);
        result(6, 1, 0, 0);
        result(6, MIN, MAX, 1);
        result(6, MAX, MIN, 0);
        result(7, -6, 7, -42);
        result(7, 65536, 65536, 0);
        result(7, 46341, 46341, -2147479015);
        result(7, MIN, -1, MIN);
        Calls.run("31, constants", "add(0,0,-999,0) -> 0, add(0,7,999,0) -> 1, run(2) -> 2, register(0) -> -999",
                "register(7) -> 999");
    }

    private static void result(int operation, int a, int b, int want) {
        SlotBundler bundler = new SlotBundler();
        bundler.add(operation, 2, 5, 6);
        bundler.addTemplate(0, 2, 2, 0);
        bundler.setRegister(5, a);
        bundler.setRegister(6, b);
        String title = "operation " + operation + " of " + a + " and " + b;
        Calls.due("31, " + title, bundler.run(1), 1);
        Calls.due("31, " + title, bundler.register(2), want);
        bundler.setRegister(2, 77);
        Calls.due("16, " + title, bundler.pack(), 1);
        Calls.due("32, " + title, bundler.runBundles(1), operation == 7 ? 3 : 1);
        Calls.due("32, " + title, bundler.register(2), want);
        Calls.due("32, a stays", bundler.register(5), a);
        Calls.due("32, b stays", bundler.register(6), b);
    }

    private static void addresses() {
        for (int address : new int[] {0, 1, 15, 16, 33, -1, -16, MIN, MAX}) {
            SlotBundler bundler = new SlotBundler();
            bundler.add(9, 0, 3, 4);
            bundler.add(8, 5, 3, 0);
            bundler.addTemplate(0, 0, 0, 7);
            bundler.setRegister(3, address);
            bundler.setRegister(4, 99);
            Calls.due("31, address " + address, bundler.run(2), 2);
            Calls.due("31, the cell of " + address, bundler.memory(address & 15), 99);
            Calls.due("31, the load of " + address, bundler.register(5), 99);
            bundler.setRegister(4, -98);
            Calls.due("16, address " + address, bundler.pack(), 1);
            Calls.due("32, address " + address, bundler.runBundles(1), 3);
            Calls.due("32, the cell of " + address, bundler.memory(address & 15), -98);
            Calls.due("32, the load of " + address, bundler.register(5), -98);
        }
    }

    private static void exits() {
        Calls.run("31, a jump", "add(10,0,2,0) -> 0, add(0,1,5,0) -> 1, add(0,2,6,0) -> 2, run(300) -> 2",
                "register(1) -> 0, register(2) -> 6");
        Calls.run("31, a branch", "add(11,0,2,3) -> 0, add(0,1,5,0) -> 1, add(0,2,6,0) -> 2, setRegister(3,-1) -> 1",
                "run(300) -> 2, register(1) -> 0, setRegister(3,0) -> 1, run(300) -> 3, register(1) -> 5");
        Calls.run("31, a stop", "add(12,0,0,0) -> 0, add(0,1,5,0) -> 1, run(300) -> 1, register(1) -> 0");
        Calls.run("31, a branch at the end", "add(11,0,0,1) -> 0, run(1) -> 1, setRegister(1,1) -> 1, run(300) -> -7");
    }

    private static void stepsOfRun() {
        Calls.run("31, without instructions", "run(0) -> 0, run(300) -> 0");
        Calls.run("31, the steps", "add(0,1,5,0) -> 0, add(0,2,6,0) -> 1, run(0) -> -7, register(1) -> 0, run(1) -> -7",
                "register(1) -> 5, register(2) -> 0, run(2) -> 2, register(2) -> 6, run(3) -> 2");
        Calls.run("31, a stop is a step", "add(12,0,0,0) -> 0, run(0) -> -7, run(1) -> 1, run(2) -> 1");
        Calls.run("31, a loop", LOOP, "run(9) -> 9, register(1) -> 0, setRegister(1,77) -> 1, run(8) -> -7",
                "register(1) -> 0, run(4) -> -7, register(1) -> 2, run(300) -> 9");
        Calls.run("31, the greatest number of steps", "add(2,1,1,2) -> 0, add(11,0,0,1) -> 1, setRegister(2,1) -> 1",
                "setRegister(1,150) -> 1, run(300) -> 300, register(1) -> 0, setRegister(1,151) -> 1, run(300) -> -7",
                "register(1) -> 1, run(300) -> 2");
        Calls.run("31, with and without a packing", LOOP, "pack() -> 3, run(9) -> 9, unpack() -> 3, run(9) -> 9");
    }

    private static void runRefusals() {
        Calls.run("31, refusals", "run(-1) -> -2, run(301) -> -2, run(2147483647) -> -2, run(-2147483648) -> -2",
                "add(0,1,5,0) -> 0, add(10,0,2,0) -> 1, run(0) -> -6, run(300) -> -6, run(301) -> -2",
                "register(1) -> 0");
    }

    private static void blocksOfRunBundles() {
        Calls.run("32, without instructions", "pack() -> 0, runBundles(0) -> 0, runBundles(100) -> 0");
        Calls.run("32, a loop", LOOP, "pack() -> 3, cycles(0) -> 1, cycles(1) -> 2, cycles(2) -> 2",
                "runBundles(5) -> 9, register(1) -> 0, setRegister(1,77) -> 1, runBundles(4) -> -7, register(1) -> 0",
                "runBundles(2) -> -7, register(1) -> 2, runBundles(1) -> -7, register(1) -> 3, register(2) -> 1",
                "setRegister(1,77) -> 1, runBundles(0) -> -7, register(1) -> 77, runBundles(100) -> 9");
        Calls.run("32, behind the last block", "add(7,1,2,2) -> 0, add(0,3,1,0) -> 1, addTemplate(2,1,1,4) -> 0",
                "setRegister(2,-3) -> 1, pack() -> 1, runBundles(0) -> -7, runBundles(1) -> 3, register(1) -> 9",
                "register(3) -> 1");
        Calls.run("32, a jump over a block", "add(10,0,2,0) -> 0, add(0,1,5,0) -> 1, add(0,2,6,0) -> 2",
                "addTemplate(1,1,3,0) -> 0, pack() -> 3, runBundles(2) -> 2, register(1) -> 0, register(2) -> 6");
        Calls.run("32, into the next block", "add(11,0,2,3) -> 0, add(0,1,5,0) -> 1, add(0,2,6,0) -> 2",
                "addTemplate(1,1,3,0) -> 0, pack() -> 3, runBundles(3) -> 3, register(1) -> 5, setRegister(3,1) -> 1",
                "runBundles(3) -> 2, setRegister(3,-1) -> 1, runBundles(3) -> 2");
        Calls.run("32, a stop", "add(12,0,0,0) -> 0, add(0,1,5,0) -> 1, addTemplate(1,1,3,0) -> 0, pack() -> 2",
                "runBundles(1) -> 1, runBundles(100) -> 1, register(1) -> 0");
        Calls.run("32, a hundred blocks", "add(2,1,1,2) -> 0, add(11,0,0,1) -> 1, addTemplate(1,3,3,1) -> 0",
                "setRegister(2,1) -> 1, pack() -> 1, setRegister(1,100) -> 1, runBundles(100) -> 200",
                "setRegister(1,101) -> 1, runBundles(100) -> -7, register(1) -> 1");
    }

    private static void groupsOfRunBundles() {
        Calls.run("32, values of the group's beginning", "add(1,3,1,2) -> 0, add(0,1,5,0) -> 1",
                "addTemplate(0,0,0,0) -> 0",
                "setRegister(1,7) -> 1, setRegister(2,8) -> 1, pack() -> 1, runBundles(1) -> 1, register(3) -> 15",
                "register(1) -> 5");
        Calls.run("32, memory of the group's beginning", "add(8,1,2,0) -> 0, add(9,0,2,3) -> 1",
                "addTemplate(0,0,0,0) -> 0, setRegister(2,4) -> 1, setMemory(4,11) -> 1, setRegister(3,22) -> 1",
                "pack() -> 1, runBundles(1) -> 2, register(1) -> 11, memory(4) -> 22");
        Calls.run("32, a register that is read late", "add(7,1,1,1) -> 0, add(1,2,1,1) -> 1, addTemplate(2,1,1,4) -> 0",
                "setRegister(1,3) -> 1, pack() -> 4, runBundles(1) -> 4, register(2) -> 18");
        Calls.run("32, two results for one register", "add(7,1,2,2) -> 0, add(7,1,3,3) -> 1, add(8,1,4,0) -> 2",
                "add(0,1,5,0) -> 3, add(9,0,1,1) -> 4, addTemplate(2,0,1,4) -> 0, setRegister(3,2) -> 1, pack() -> 7",
                "placeOf(1,2) -> 1, placeOf(2,2) -> 3, placeOf(3,2) -> 5, runBundles(1) -> 7, register(1) -> 5",
                "memory(5) -> 5");
        Calls.run("32, results awaited at the end", "add(7,1,2,2) -> 0, add(11,0,3,4) -> 1, add(12,0,0,0) -> 2",
                "add(1,3,1,1) -> 3, addTemplate(2,1,3,0) -> 0, setRegister(2,5) -> 1, setRegister(4,1) -> 1",
                "pack() -> 3, placeOf(1,2) -> 0, runBundles(9) -> 4, register(3) -> 50");
        Calls.run("32, the branch and a result", "add(0,1,0,0) -> 0, add(11,0,3,1) -> 1, add(12,0,0,0) -> 2",
                "add(0,2,9,0) -> 3, addTemplate(1,3,3,1) -> 0, setRegister(1,1) -> 1, pack() -> 3, runBundles(9) -> 4",
                "register(2) -> 0, compare(9) -> 1");
    }

    private static void runBundlesRefusals() {
        Calls.run("32, refusals", "runBundles(-1) -> -2, runBundles(101) -> -2, runBundles(0) -> -5",
                "runBundles(100) -> -5, runBundles(2147483647) -> -2, runBundles(-2147483648) -> -2, pack() -> 0",
                "runBundles(101) -> -2, runBundles(-1) -> -2, runBundles(100) -> 0, unpack() -> 0, runBundles(0) -> -5",
                "add(10,0,1,0) -> 0, runBundles(0) -> -5");
    }

    private static void comparing() {
        Calls.run("33, without instructions", "pack() -> 0, compare(0) -> 1, compare(300) -> 1");
        Calls.run("33, a loop", LOOP, "pack() -> 3, setRegister(1,77) -> 1, setMemory(3,4) -> 1, compare(9) -> 1",
                "compare(8) -> -7, compare(0) -> -7, compare(300) -> 1, register(1) -> 77, register(2) -> 0",
                "memory(3) -> 4");
        Calls.run("33, from the present registers", "add(11,0,0,1) -> 0, addTemplate(3,3,3,0) -> 0, pack() -> 1",
                "compare(300) -> 1, setRegister(1,1) -> 1, compare(300) -> -7, register(1) -> 1, setRegister(1,0) -> 1",
                "compare(1) -> 1, compare(0) -> -7");
        Calls.run("33, memory stays", "add(9,0,1,2) -> 0, add(8,3,1,0) -> 1, addTemplate(0,0,0,7) -> 0",
                "setRegister(1,5) -> 1, setRegister(2,6) -> 1, pack() -> 1, compare(2) -> 1, memory(5) -> 0",
                "register(3) -> 0");
    }

    private static void comparingOfManyBlocks() {
        Calls.run("33, as many blocks as steps", "add(2,1,1,2) -> 0, add(11,0,0,1) -> 1, add(12,0,0,0) -> 2",
                "add(10,0,1,0) -> 3, addTemplate(1,3,3,0) -> 0, setRegister(2,1) -> 1, setRegister(1,149) -> 1",
                "pack() -> 4, blockBegin(1) -> 1, compare(299) -> 1, compare(298) -> -7, runBundles(100) -> -7");
        Calls.run("33, three hundred steps, each a block", "add(10,0,1,0) -> 0, add(2,1,1,2) -> 1",
                "add(11,0,1,1) -> 2, add(12,0,0,0) -> 3, add(10,0,2,0) -> 4, addTemplate(1,3,3,0) -> 0",
                "setRegister(2,1) -> 1, setRegister(1,149) -> 1, pack() -> 5, compare(300) -> 1, compare(299) -> -7",
                "register(1) -> 149, setRegister(1,150) -> 1, compare(300) -> -7");
    }

    private static void compareRefusals() {
        Calls.run("33, refusals", "compare(-1) -> -2, compare(301) -> -2, compare(0) -> -5, compare(300) -> -5",
                "compare(2147483647) -> -2, compare(-2147483648) -> -2, add(10,0,1,0) -> 0, compare(300) -> -5",
                "undo() -> 0, pack() -> 0, compare(301) -> -2, compare(-1) -> -2, compare(0) -> 1, unpack() -> 0",
                "compare(0) -> -5");
    }
}
