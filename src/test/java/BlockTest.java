/** Promises 8 to 11: blockCount, blockOf, blockBegin, distance. */
public final class BlockTest {
    private static final String FOUR_BLOCKS = "add(11,0,3,0) -> 0, add(0,1,5,0) -> 1, add(10,0,4,0) -> 2, "
            + "add(0,1,7,0) -> 3, add(2,0,0,1) -> 4, add(11,0,4,0) -> 5";

    public static void main(String[] args) {
        blocks();
        blocksOfAnIncompleteProgram();
        blockRefusals();
        distancesOfRegisters();
        distancesOfMemory();
        distancesToExits();
        distanceRefusals();
        Calls.end("BlockTest");
    }

    private static void blocks() {
        Calls.run("8, without instructions", "blockCount() -> 0");
        Calls.run("8, one block", "add(0,1,5,0) -> 0, blockCount() -> 1, add(0,1,5,0) -> 1, blockCount() -> 1");
        Calls.run("8 to 10, targets and exits", FOUR_BLOCKS, "blockCount() -> 4, blockOf(0) -> 0, blockOf(1) -> 1",
                "blockOf(2) -> 1, blockOf(3) -> 2, blockOf(4) -> 3, blockOf(5) -> 3, blockBegin(0) -> 0",
                "blockBegin(1) -> 1, blockBegin(2) -> 3, blockBegin(3) -> 4");
        Calls.run("8, an exit at the end begins nothing", "add(0,1,5,0) -> 0, add(12,0,0,0) -> 1, blockCount() -> 1");
        Calls.run("8, behind each exit", "add(10,0,0,0) -> 0, add(11,0,0,0) -> 1, add(12,0,0,0) -> 2",
                "add(0,1,5,0) -> 3, blockCount() -> 4, blockBegin(3) -> 3, blockOf(3) -> 3");
        Calls.run("8, a jump to itself and back", "add(0,1,5,0) -> 0, add(0,1,5,0) -> 1, add(10,0,2,0) -> 2",
                "blockCount() -> 2, blockBegin(1) -> 2, set(2,10,0,1,0) -> 10, blockCount() -> 2, blockBegin(1) -> 1",
                "set(2,10,0,0,0) -> 10, blockCount() -> 1");
        Calls.run("8, a constant is no target", "add(0,1,1,0) -> 0, add(0,1,5,0) -> 1, blockCount() -> 1");
        SlotBundler bundler = new SlotBundler();
        for (int k = 0; k < 40; k++) {
            bundler.add(11, 0, 39, 0);
        }
        Calls.due("8, forty blocks", bundler.blockCount(), 40);
        Calls.due("9, the last block", bundler.blockOf(39), 39);
        Calls.due("10, the last begin", bundler.blockBegin(39), 39);
        Calls.due("10, behind the last begin", bundler.blockBegin(40), -1);
    }

    private static void blocksOfAnIncompleteProgram() {
        Calls.run("8 to 10, incomplete", "add(10,0,1,0) -> 0, blockCount() -> -6, blockOf(0) -> -6, blockOf(1) -> -1",
                "blockBegin(0) -> -6, blockBegin(9) -> -6, add(11,0,2,0) -> 1, blockCount() -> -6",
                "add(12,0,0,0) -> 2, blockCount() -> 3, blockOf(1) -> 1, blockBegin(2) -> 2, removeLast() -> 2",
                "blockOf(0) -> -6, blockBegin(0) -> -6");
        Calls.run("8, a branch that needs its target", "add(11,0,1,0) -> 0, blockCount() -> -6, set(0,11,0,0,0) -> 11",
                "blockCount() -> 1");
    }

    private static void blockRefusals() {
        Calls.run("9 and 10, refusals", FOUR_BLOCKS, "blockOf(6) -> -1, blockOf(-1) -> -1, blockOf(40) -> -1",
                "blockOf(-2147483648) -> -1, blockBegin(4) -> -1, blockBegin(-1) -> -1, blockBegin(40) -> -1",
                "blockBegin(41) -> -1, blockBegin(2147483647) -> -1");
        Calls.run("9 and 10, without instructions", "blockOf(0) -> -1, blockBegin(0) -> -1");
    }

    private static void distancesOfRegisters() {
        Calls.run("11, a result is read", "add(7,1,2,2) -> 0, add(8,2,2,0) -> 1, add(1,3,1,2) -> 2, add(2,4,3,3) -> 3",
                "distance(0,2) -> 3, distance(1,2) -> 2, distance(2,3) -> 1, distance(0,3) -> -4, distance(0,1) -> 0");
        Calls.run("11, read as b and as address", "add(0,5,1,0) -> 0, add(3,1,2,5) -> 1, add(8,2,5,0) -> 2",
                "add(9,0,5,6) -> 3, add(9,0,6,5) -> 4, distance(0,1) -> 1, distance(0,2) -> 1, distance(0,3) -> 1",
                "distance(0,4) -> 1, distance(1,3) -> -4");
        Calls.run("11, both write", "add(7,1,2,3) -> 0, add(8,1,2,0) -> 1, add(0,1,5,0) -> 2, add(8,1,2,0) -> 3",
                "add(7,1,2,3) -> 4, add(7,1,2,3) -> 5, distance(0,1) -> 2, distance(0,2) -> 3, distance(1,2) -> 2",
                "distance(2,3) -> 1, distance(2,4) -> 1, distance(3,4) -> 1, distance(4,5) -> 1, distance(1,3) -> 1",
                "distance(0,5) -> 1");
        Calls.run("11, a register is read and then written", "add(1,1,2,3) -> 0, add(0,3,5,0) -> 1, add(0,2,5,0) -> 2",
                "add(8,4,2,0) -> 3, add(7,2,5,5) -> 4, add(9,0,6,7) -> 5, add(0,6,5,0) -> 6, add(0,7,5,0) -> 7",
                "distance(0,1) -> 0, distance(0,2) -> 0, distance(3,4) -> 0, distance(5,6) -> 0, distance(5,7) -> 0",
                "distance(1,2) -> -4, distance(0,5) -> -4");
        Calls.run("11, the greatest one", "add(7,1,2,2) -> 0, add(7,1,1,1) -> 1, distance(0,1) -> 3",
                "add(1,2,1,1) -> 2, distance(0,2) -> 3, distance(1,2) -> 3, add(8,2,2,0) -> 3, distance(2,3) -> 1");
        Calls.run("11, constants are no registers", "add(0,1,5,0) -> 0, add(0,2,1,0) -> 1, distance(0,1) -> -4",
                "add(0,3,1,0) -> 2, add(0,5,1,0) -> 3, distance(0,3) -> -4");
        Calls.run("11, zeros are no registers", "add(0,0,5,0) -> 0, add(8,1,2,0) -> 1, add(9,0,3,4) -> 2",
                "add(0,0,7,0) -> 3, distance(0,1) -> -4, distance(0,2) -> -4, distance(1,3) -> -4",
                "distance(2,3) -> -4, distance(0,3) -> 1");
    }

    private static void distancesOfMemory() {
        Calls.run("11, stores and loads", "add(9,0,1,2) -> 0, add(9,0,3,4) -> 1, add(8,5,6,0) -> 2, add(8,7,6,0) -> 3",
                "add(9,0,1,2) -> 4, distance(0,1) -> 1, distance(0,2) -> 1, distance(1,3) -> 1, distance(2,3) -> -4",
                "distance(2,4) -> 0, distance(3,4) -> 0, distance(0,4) -> 1");
        Calls.run("11, a load whose result is stored", "add(8,1,2,0) -> 0, add(9,0,2,1) -> 1, distance(0,1) -> 2");
        Calls.run("11, a store and a load of its address", "add(9,0,1,2) -> 0, add(8,1,3,0) -> 1",
                "distance(0,1) -> 1");
        Calls.run("11, other instructions and memory", "add(1,1,2,3) -> 0, add(9,0,4,5) -> 1, add(1,6,2,3) -> 2",
                "distance(0,1) -> -4, distance(1,2) -> -4");
    }

    private static void distancesToExits() {
        Calls.run("11, to a stop", "add(7,1,2,2) -> 0, add(9,0,1,1) -> 1, add(12,0,0,0) -> 2, distance(0,2) -> 0",
                "distance(1,2) -> 0");
        Calls.run("11, to a jump", "add(0,0,5,0) -> 0, add(7,1,2,2) -> 1, add(10,0,0,0) -> 2, distance(0,2) -> 0",
                "distance(1,2) -> 0");
        Calls.run("11, to a branch", "add(7,1,2,2) -> 0, add(8,1,2,0) -> 1, add(0,1,5,0) -> 2, add(0,4,5,0) -> 3",
                "add(11,0,0,1) -> 4, distance(0,4) -> 3, distance(1,4) -> 2, distance(2,4) -> 1, distance(3,4) -> 0");
        Calls.run("11, a target is no register", "add(0,4,5,0) -> 0, add(0,5,5,0) -> 1, add(11,0,0,3) -> 2",
                "distance(0,2) -> 0, set(2,11,0,1,3) -> 11, distance(1,2) -> 0, set(1,7,1,2,2) -> 0",
                "distance(1,2) -> 0");
    }

    private static void distanceRefusals() {
        Calls.run("11, refusals", "distance(0,0) -> -1, distance(0,1) -> -1, add(0,1,5,0) -> 0, add(12,0,0,0) -> 1",
                "add(0,1,5,0) -> 2, distance(0,3) -> -1, distance(-1,0) -> -1, distance(3,0) -> -1",
                "distance(0,-1) -> -1, distance(0,0) -> -2, distance(1,0) -> -2, distance(0,2) -> -2",
                "distance(1,2) -> -2, distance(0,1) -> 0, distance(2147483647,-2147483648) -> -1");
        Calls.run("11, incomplete", "add(0,1,5,0) -> 0, add(11,0,3,1) -> 1, distance(0,1) -> -6, distance(1,0) -> -6",
                "distance(0,2) -> -1, distance(2,0) -> -1, add(0,1,5,0) -> 2, distance(0,2) -> -6",
                "add(0,1,5,0) -> 3, distance(0,1) -> 1");
    }
}
