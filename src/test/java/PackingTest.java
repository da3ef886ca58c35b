/** Promises 16 to 22: pack, unpack, bundleCount, bundle, placeOf, cycles, emptySlots. */
public final class PackingTest {
    /** A first block of three bundles, of which the second is empty, and a second block with a stop. */
    private static final String TWO_BLOCKS = "add(7,1,2,2) -> 0, add(0,3,5,0) -> 1, add(1,4,1,3) -> 2, "
            + "add(10,0,4,0) -> 3, add(12,0,0,0) -> 4, addTemplate(2,1,3,6) -> 0, pack() -> 4";

    public static void main(String[] args) {
        operationsAndTypes();
        groupsOfTemplates();
        orderOfInstructions();
        latencies();
        distancesOfZero();
        choiceOfTemplates();
        impossiblePackings();
        sixtyBundles();
        packingAgain();
        unpacking();
        bundles();
        places();
        cyclesAndEmptySlots();
        Calls.end("PackingTest");
    }

    private static void operationsAndTypes() {
        int[][] typesOf = {{0, 1}, {0, 1}, {0, 1}, {0, 1}, {0, 1}, {0, 1}, {0, 1}, {2}, {0}, {0}, {3}, {3}, {3}};
        for (int operation = 0; operation <= 12; operation++) {
            for (int type = 0; type <= 3; type++) {
                SlotBundler bundler = new SlotBundler();
                bundler.add(operation, 0, 0, 0);
                bundler.addTemplate(type, type, type, 4);
                boolean fits = typesOf[operation][0] == type || typesOf[operation].length > 1 && type == 1;
                Calls.due("16, operation " + operation + " in type " + type, bundler.pack(), fits ? 1 : -8);
            }
        }
    }

    private static void groupsOfTemplates() {
        String six = "add(0,0,1,0) -> 0, add(0,1,1,0) -> 1, add(0,2,1,0) -> 2, add(0,3,1,0) -> 3, "
                + "add(0,4,1,0) -> 4, add(0,5,1,0) -> 5";
        Calls.run("16, no stop marks", six, "addTemplate(0,1,0,0) -> 0, pack() -> 2, placeOf(2,2) -> 0",
                "placeOf(3,2) -> 0, placeOf(5,2) -> 0, placeOf(5,0) -> 1, placeOf(5,1) -> 2, cycles(0) -> 1");
        Calls.run("16, a stop mark behind slot 0", six, "addTemplate(0,1,0,1) -> 0, pack() -> 2, placeOf(0,2) -> 0",
                "placeOf(1,2) -> 1, placeOf(2,2) -> 1, placeOf(3,2) -> 1, placeOf(4,2) -> 2, placeOf(5,2) -> 2");
        Calls.run("16, a stop mark behind slot 1", six, "addTemplate(0,1,0,2) -> 0, pack() -> 2, placeOf(1,2) -> 0",
                "placeOf(2,2) -> 1, placeOf(3,2) -> 1, placeOf(4,2) -> 1, placeOf(5,2) -> 2");
        Calls.run("16, a stop mark behind slot 2", six, "addTemplate(0,1,0,4) -> 0, pack() -> 2, placeOf(2,2) -> 0",
                "placeOf(3,2) -> 1, placeOf(5,2) -> 1, cycles(0) -> 2");
        Calls.run("16, all stop marks", six, "addTemplate(0,1,0,7) -> 0, pack() -> 2, placeOf(0,2) -> 0",
                "placeOf(1,2) -> 1, placeOf(2,2) -> 2, placeOf(3,2) -> 3, placeOf(4,2) -> 4, placeOf(5,2) -> 5");
        Calls.run("16, groups are counted anew", "add(0,0,1,0) -> 0, add(12,0,0,0) -> 1, add(0,1,1,0) -> 2",
                "add(12,0,0,0) -> 3, addTemplate(0,1,3,7) -> 0, pack() -> 2, placeOf(1,2) -> 2, placeOf(2,2) -> 0",
                "placeOf(3,2) -> 2, cycles(0) -> 3, cycles(1) -> 3");
    }

    private static void orderOfInstructions() {
        Calls.run("16, the next one waits for its slot", "add(8,1,2,0) -> 0, add(0,3,5,0) -> 1",
                "addTemplate(1,0,0,4) -> 0",
                "pack() -> 1, bundle(0,0) -> -4, bundle(0,1) -> 0, bundle(0,2) -> 1");
        Calls.run("16, no later one comes before", "add(7,1,2,2) -> 0, add(1,3,1,1) -> 1, add(0,4,5,0) -> 2",
                "addTemplate(2,0,0,4) -> 0, pack() -> 4, bundle(0,1) -> -4, bundle(0,2) -> -4, bundle(1,1) -> -4",
                "bundle(3,1) -> 1, bundle(3,2) -> 2, placeOf(2,2) -> 3");
        Calls.run("16, no bundle of two blocks", "add(12,0,0,0) -> 0, add(12,0,0,0) -> 1, addTemplate(3,3,3,0) -> 0",
                "pack() -> 2, bundle(0,0) -> 0, bundle(0,1) -> -4, bundle(1,0) -> 1, bundle(1,4) -> 1");
    }

    private static void latencies() {
        Calls.run("16, a multiplication", "add(7,1,2,2) -> 0, add(7,3,1,1) -> 1, addTemplate(2,2,2,7) -> 0",
                "pack() -> 2",
                "placeOf(0,2) -> 0, placeOf(1,0) -> 1, placeOf(1,1) -> 0, placeOf(1,2) -> 3, cycles(0) -> 6");
        Calls.run("16, a load", "add(8,1,2,0) -> 0, add(8,3,1,0) -> 1, addTemplate(0,0,0,7) -> 0, pack() -> 1",
                "placeOf(1,1) -> 2, placeOf(1,2) -> 2, cycles(0) -> 4, emptySlots() -> 1");
        Calls.run("16, everything else", "add(0,1,2,0) -> 0, add(1,3,1,1) -> 1, addTemplate(0,0,0,7) -> 0, pack() -> 1",
                "placeOf(1,1) -> 1, placeOf(1,2) -> 1, cycles(0) -> 2, emptySlots() -> 1");
        Calls.run("16, an earlier one than the last", "add(7,1,2,2) -> 0, add(0,3,5,0) -> 1, add(0,4,5,0) -> 2",
                "add(1,5,1,3) -> 3, addTemplate(2,1,1,7) -> 0, pack() -> 2, placeOf(2,2) -> 2, placeOf(3,2) -> 4");
        Calls.run("16, none of an earlier block", "add(7,1,2,2) -> 0, add(10,0,2,0) -> 1, add(7,1,1,1) -> 2",
                "addTemplate(2,3,3,0) -> 0, pack() -> 2, placeOf(2,2) -> 0");
    }

    private static void distancesOfZero() {
        Calls.run("16, the same group", "add(1,3,1,2) -> 0, add(0,1,5,0) -> 1, addTemplate(0,0,3,0) -> 0, pack() -> 1",
                "placeOf(1,2) -> 0");
        Calls.run("16, a load and a store", "add(8,1,2,0) -> 0, add(9,0,2,3) -> 1, addTemplate(0,0,3,0) -> 0",
                "pack() -> 1, placeOf(1,2) -> 0, cycles(0) -> 2");
        Calls.run("16, two stores", "add(9,0,1,2) -> 0, add(9,0,3,4) -> 1, addTemplate(0,0,0,2) -> 0, pack() -> 1",
                "placeOf(0,2) -> 0, placeOf(1,1) -> 2, placeOf(1,2) -> 1");
        Calls.run("16, an exit", "add(7,1,2,2) -> 0, add(12,0,0,0) -> 1, addTemplate(2,3,3,0) -> 0, pack() -> 1",
                "placeOf(1,2) -> 0, cycles(0) -> 3");
        Calls.run("16, a branch on a result", "add(0,1,5,0) -> 0, add(11,0,0,1) -> 1, addTemplate(0,3,3,2) -> 0",
                "pack() -> 1, placeOf(1,1) -> 2, placeOf(1,2) -> 1, cycles(0) -> 2");
    }

    private static void choiceOfTemplates() {
        String three = "add(0,0,1,0) -> 0, add(0,1,1,0) -> 1, add(0,2,1,0) -> 2";
        Calls.run("16, the most instructions", three, "addTemplate(2,1,1,0) -> 0, addTemplate(0,0,0,7) -> 1",
                "addTemplate(2,2,1,0) -> 2, pack() -> 1, bundle(0,3) -> 1");
        Calls.run("16, the fewest stop marks", three, "addTemplate(0,0,0,7) -> 0, addTemplate(0,0,0,5) -> 1",
                "addTemplate(1,1,1,2) -> 2, addTemplate(0,0,0,4) -> 3, addTemplate(0,0,0,3) -> 4, pack() -> 1",
                "bundle(0,3) -> 2");
        Calls.run("16, the lowest number", three, "addTemplate(1,1,1,4) -> 0, addTemplate(0,0,0,1) -> 1, pack() -> 1",
                "bundle(0,3) -> 0");
        Calls.run("16, the most stop marks of an empty bundle", "add(7,1,2,2) -> 0, add(1,3,1,1) -> 1",
                "addTemplate(2,1,1,1) -> 0, addTemplate(2,1,1,5) -> 1, addTemplate(2,1,1,6) -> 2",
                "addTemplate(2,1,1,0) -> 3, pack() -> 3, bundle(0,3) -> 3, bundle(1,3) -> 1, bundle(1,0) -> -4",
                "bundle(1,1) -> -4, bundle(1,2) -> -4, bundle(2,3) -> 0, placeOf(1,1) -> 1, placeOf(1,2) -> 3");
        Calls.run("16, stop marks within the trial", "add(0,1,1,0) -> 0, add(1,2,1,1) -> 1, add(1,3,2,2) -> 2",
                "addTemplate(0,0,0,4) -> 0, addTemplate(0,0,0,1) -> 1, addTemplate(0,0,0,7) -> 2, pack() -> 1",
                "bundle(0,3) -> 2, clearTemplates() -> -5, unpack() -> 1, clearTemplates() -> 3",
                "addTemplate(0,0,0,4) -> 0, addTemplate(0,0,0,1) -> 1, pack() -> 2, bundle(0,3) -> 1",
                "bundle(1,3) -> 1, placeOf(2,1) -> 1, placeOf(2,2) -> 2");
        Calls.run("16, anew for each bundle and block", "add(0,1,1,0) -> 0, add(12,0,0,0) -> 1, add(7,1,2,2) -> 2",
                "add(12,0,0,0) -> 3, addTemplate(3,3,3,4) -> 0, addTemplate(1,3,3,4) -> 1",
                "addTemplate(2,3,3,4) -> 2, pack() -> 2, bundle(0,3) -> 1, bundle(1,3) -> 2");
    }

    private static void impossiblePackings() {
        Calls.run("16, without instructions", "pack() -> 0, bundleCount() -> 0, emptySlots() -> 0, codeLength() -> 0");
        Calls.run("16, without templates", "add(12,0,0,0) -> 0, pack() -> -8, bundleCount() -> -5, unpack() -> -5",
                "add(12,0,0,0) -> 1, addTemplate(3,3,3,0) -> 0, pack() -> 2");
        Calls.run("16, incomplete", "add(10,0,1,0) -> 0, pack() -> -6, addTemplate(3,3,3,0) -> 0, pack() -> -6",
                "bundleCount() -> -5, add(12,0,0,0) -> 1, pack() -> 2");
        Calls.run("16, an empty bundle without a stop mark", "add(7,1,2,2) -> 0, add(1,3,1,1) -> 1",
                "addTemplate(2,1,1,0) -> 0, pack() -> -8, bundleCount() -> -5, bundle(0,0) -> -5, undo() -> 1",
                "pack() -> 1, unpack() -> 1, add(0,3,1,0) -> 1, pack() -> 1, placeOf(1,2) -> 0");
        Calls.run("16, no slot ever", "add(0,1,1,0) -> 0, addTemplate(2,2,2,7) -> 0, addTemplate(3,3,3,7) -> 1",
                "pack() -> -8, addTemplate(2,2,1,0) -> 2, pack() -> 1, bundle(0,3) -> 2");
        Calls.run("16, the second block", "add(12,0,0,0) -> 0, add(0,1,1,0) -> 1, addTemplate(3,3,3,4) -> 0",
                "pack() -> -8, bundleCount() -> -5, removeLast() -> 1, pack() -> 1");
    }

    private static void sixtyBundles() {
        SlotBundler bundler = new SlotBundler();
        for (int k = 0; k < 20; k++) {
            bundler.add(7, 1, 1, 1);
        }
        bundler.add(12, 0, 0, 0);
        bundler.addTemplate(2, 1, 3, 4);
        Calls.due("16, 58 bundles", bundler.pack(), 58);
        Calls.due("20, the last multiplication", bundler.placeOf(19, 2), 57);
        Calls.due("21, its cycles", bundler.cycles(0), 60);
        Calls.due("22, empty slots", bundler.emptySlots(), 58 * 3 - 21);
        bundler.unpack();
        bundler.add(12, 0, 0, 0);
        bundler.add(12, 0, 0, 0);
        Calls.due("16, 60 bundles", bundler.pack(), 60);
        Calls.due("19, the last bundle", bundler.bundle(59, 2), 22);
        bundler.unpack();
        bundler.add(12, 0, 0, 0);
        Calls.due("16, 61 bundles of several blocks", bundler.pack(), -8);
        Calls.due("18, no packing", bundler.bundleCount(), -5);
        Calls.due("7, the history", bundler.undo(), 9);
        Calls.due("16, 60 bundles again", bundler.pack(), 60);
        SlotBundler one = new SlotBundler();
        for (int k = 0; k < 20; k++) {
            one.add(7, 1, 1, 1);
        }
        one.add(7, 1, 2, 2);
        one.add(7, 1, 2, 2);
        one.addTemplate(2, 2, 2, 4);
        Calls.due("16, 60 bundles of one block", one.pack(), 60);
        one.unpack();
        one.add(7, 1, 2, 2);
        Calls.due("16, 61 bundles of one block", one.pack(), -8);
    }

    private static void packingAgain() {
        Calls.run("16, the same again", TWO_BLOCKS, "pack() -> 4, bundleCount() -> 4, placeOf(2,2) -> 4",
                "placeOf(3,2) -> 5, bundle(3,4) -> 1, add(12,0,0,0) -> -5, unpack() -> 4, unpack() -> -5");
        Calls.run("16, another one", "add(0,1,1,0) -> 0, add(0,2,1,0) -> 1, addTemplate(1,3,3,4) -> 0, pack() -> 2",
                "cycles(0) -> 2, unpack() -> 2, addTemplate(1,1,3,0) -> 1, pack() -> 1, cycles(0) -> 1",
                "bundleCount() -> 1, bundle(1,0) -> -1, placeOf(1,1) -> 1, codeLength() -> 3");
    }

    private static void unpacking() {
        Calls.run("17 and 18, unpack", "unpack() -> -5, bundleCount() -> -5, pack() -> 0, bundleCount() -> 0",
                "unpack() -> 0, bundleCount() -> -5, unpack() -> -5, add(12,0,0,0) -> 0, addTemplate(3,3,3,0) -> 0",
                "pack() -> 1, bundleCount() -> 1, unpack() -> 1, bundleCount() -> -5, set(0,12,0,0,0) -> 12",
                "removeLast() -> 0, clearTemplates() -> 1");
    }

    private static void bundles() {
        Calls.run("19, the parts", TWO_BLOCKS, "bundle(0,0) -> 0, bundle(0,1) -> 1, bundle(0,2) -> -4",
                "bundle(0,3) -> 0, bundle(0,4) -> 0, bundle(1,0) -> -4, bundle(1,1) -> -4, bundle(1,2) -> -4",
                "bundle(1,3) -> 0, bundle(1,4) -> 0, bundle(2,0) -> -4, bundle(2,1) -> 2, bundle(2,2) -> 3",
                "bundle(2,4) -> 0, bundle(3,0) -> -4, bundle(3,1) -> -4, bundle(3,2) -> 4, bundle(3,3) -> 0",
                "bundle(3,4) -> 1");
        Calls.run("19, refusals", "bundle(0,0) -> -5, bundle(-1,9) -> -5", TWO_BLOCKS, "bundle(4,0) -> -1",
                "bundle(-1,0) -> -1, bundle(60,0) -> -1, bundle(4,5) -> -1, bundle(0,5) -> -2, bundle(0,-1) -> -2",
                "bundle(2147483647,0) -> -1, bundle(0,2147483647) -> -2, unpack() -> 4, bundle(0,0) -> -5");
    }

    private static void places() {
        Calls.run("20, the places", TWO_BLOCKS, "placeOf(0,0) -> 0, placeOf(0,1) -> 0, placeOf(0,2) -> 0",
                "placeOf(1,0) -> 0, placeOf(1,1) -> 1, placeOf(1,2) -> 0, placeOf(2,0) -> 2, placeOf(2,1) -> 1",
                "placeOf(2,2) -> 4, placeOf(3,0) -> 2, placeOf(3,1) -> 2, placeOf(3,2) -> 5, placeOf(4,0) -> 3",
                "placeOf(4,1) -> 2, placeOf(4,2) -> 1");
        Calls.run("20, refusals", "placeOf(0,0) -> -5, placeOf(-1,9) -> -5", TWO_BLOCKS, "placeOf(5,0) -> -1",
                "placeOf(-1,0) -> -1, placeOf(40,0) -> -1, placeOf(5,3) -> -1, placeOf(0,3) -> -2, placeOf(0,-1) -> -2",
                "placeOf(-2147483648,0) -> -1, unpack() -> 4, placeOf(0,0) -> -5");
    }

    private static void cyclesAndEmptySlots() {
        Calls.run("21 and 22, a packing", TWO_BLOCKS, "cycles(0) -> 6, cycles(1) -> 2, emptySlots() -> 7");
        Calls.run("21, an early instruction with a great latency", "add(7,1,2,2) -> 0, add(0,3,1,0) -> 1",
                "addTemplate(2,1,1,1) -> 0, pack() -> 1, placeOf(1,2) -> 1, cycles(0) -> 3, emptySlots() -> 1");
        Calls.run("21, the latencies", "add(8,1,2,0) -> 0, addTemplate(0,0,0,7) -> 0, pack() -> 1, cycles(0) -> 2",
                "emptySlots() -> 2, unpack() -> 1, set(0,9,0,0,0) -> 8, pack() -> 1, cycles(0) -> 1");
        Calls.run("21 and 22, refusals", "cycles(0) -> -5, cycles(-1) -> -5, emptySlots() -> -5", TWO_BLOCKS,
                "cycles(2) -> -1, cycles(-1) -> -1, cycles(40) -> -1, cycles(2147483647) -> -1, unpack() -> 4",
                "cycles(0) -> -5, emptySlots() -> -5, removeLast() -> 4, blockCount() -> -6, cycles(0) -> -5");
        Calls.run("21 and 22, without instructions", "pack() -> 0, cycles(0) -> -1, emptySlots() -> 0");
    }
}
