/** Promises 1 to 7: a new object, add, set, removeLast, size, part, undo. */
public final class ProgramTest {
    private static final String EMPTY_BUNDLER = "size() -> 0, templateCount() -> 0, blockCount() -> 0";

    public static void main(String[] args) {
        newObject();
        addTakesEachOperation();
        addRefusesBadNumbers();
        addRefusesInOrder();
        setReplaces();
        setRefusesInOrder();
        removeLastAndSize();
        part();
        undoOfEachChange();
        undoOfTenChanges();
        undoLeavesTheRest();
        Calls.end("ProgramTest");
    }

    private static void newObject() {
        Calls.run("1, a new object", EMPTY_BUNDLER, "bundleCount() -> -5, undo() -> -4, removeLast() -> -4",
                "part(0,0) -> -1, blockOf(0) -> -1, blockBegin(0) -> -1, template(0,0) -> -1, unpack() -> -5",
                "codeLength() -> -5, emptySlots() -> -5, cycles(0) -> -5, run(0) -> 0, run(300) -> 0");
        SlotBundler bundler = new SlotBundler();
        for (int k = 0; k < 8; k++) {
            Calls.due("1, register " + k, bundler.register(k), 0);
        }
        for (int k = 0; k < 16; k++) {
            Calls.due("1, cell " + k, bundler.memory(k), 0);
        }
    }

    private static void addTakesEachOperation() {
        Calls.run("2, the greatest and least numbers",
                "add(0,7,999,0) -> 0, add(0,0,-999,0) -> 1, add(1,7,7,7) -> 2, add(2,0,0,0) -> 3, add(3,7,7,7) -> 4",
                "add(4,0,0,0) -> 5, add(5,7,7,7) -> 6, add(6,7,7,7) -> 7, add(7,7,7,7) -> 8, add(8,7,7,0) -> 9",
                "add(9,0,7,7) -> 10, add(10,0,39,0) -> 11, add(11,0,39,7) -> 12, add(12,0,0,0) -> 13",
                "add(10,0,0,0) -> 14, add(11,0,0,0) -> 15, size() -> 16");
    }

    private static void addRefusesBadNumbers() {
        Calls.run("2, bad operations", "add(-1,0,0,0) -> -2, add(13,0,0,0) -> -2, add(2147483647,0,0,0) -> -2",
                "add(-2147483648,0,0,0) -> -2, size() -> 0, undo() -> -4");
        Calls.run("2, bad numbers of a constant", "add(0,8,0,0) -> -2, add(0,-1,0,0) -> -2, add(0,0,1000,0) -> -2",
                "add(0,0,-1000,0) -> -2, add(0,0,0,1) -> -2, add(0,0,0,-1) -> -2",
                "add(0,0,-2147483648,0) -> -2, size() -> 0");
        SlotBundler bundler = new SlotBundler();
        for (int operation = 1; operation <= 7; operation++) {
            for (int bad : new int[] {-1, 8, Integer.MIN_VALUE, Integer.MAX_VALUE}) {
                Calls.due("2, bad d of " + operation, bundler.add(operation, bad, 0, 0), -2);
                Calls.due("2, bad a of " + operation, bundler.add(operation, 0, bad, 0), -2);
                Calls.due("2, bad b of " + operation, bundler.add(operation, 0, 0, bad), -2);
            }
        }
        Calls.run("2, bad numbers of a load", "add(8,8,0,0) -> -2, add(8,-1,0,0) -> -2, add(8,0,8,0) -> -2",
                "add(8,0,-1,0) -> -2, add(8,0,0,1) -> -2, add(8,0,0,-1) -> -2");
        Calls.run("2, bad numbers of a store", "add(9,1,0,0) -> -2, add(9,-1,0,0) -> -2, add(9,0,8,0) -> -2",
                "add(9,0,-1,0) -> -2, add(9,0,0,8) -> -2, add(9,0,0,-1) -> -2");
        Calls.run("2, bad numbers of a jump", "add(10,1,0,0) -> -2, add(10,-1,0,0) -> -2, add(10,0,40,0) -> -2",
                "add(10,0,-1,0) -> -2, add(10,0,0,1) -> -2, add(10,0,0,-1) -> -2");
        Calls.run("2, bad numbers of a branch", "add(11,1,0,0) -> -2, add(11,-1,0,0) -> -2, add(11,0,40,0) -> -2",
                "add(11,0,-1,0) -> -2, add(11,0,0,8) -> -2, add(11,0,0,-1) -> -2");
        Calls.run("2, bad numbers of a stop", "add(12,1,0,0) -> -2, add(12,0,1,0) -> -2, add(12,0,0,1) -> -2",
                "add(12,-1,0,0) -> -2, add(12,0,-1,0) -> -2, add(12,0,0,-1) -> -2, size() -> 0");
    }

    private static void addRefusesInOrder() {
        SlotBundler bundler = new SlotBundler();
        for (int k = 0; k < 40; k++) {
            Calls.due("2, instruction " + k, bundler.add(12, 0, 0, 0), k);
        }
        Calls.due("2, full", bundler.add(12, 0, 0, 0), -3);
        Calls.due("2, bad before full", bundler.add(12, 0, 0, 1), -2);
        Calls.due("2, size", bundler.size(), 40);
        Calls.due("2, a template", bundler.addTemplate(3, 3, 3, 0), 0);
        Calls.due("2, packed", bundler.pack(), 40);
        Calls.due("2, state before full", bundler.add(12, 0, 0, 0), -5);
        Calls.due("2, bad before state", bundler.add(13, 0, 0, 0), -2);
        Calls.due("2, full is no change", bundler.unpack(), 40);
        Calls.due("2, undo", bundler.undo(), 9);
        Calls.due("2, room again", bundler.add(12, 0, 0, 0), 39);
    }

    private static void setReplaces() {
        Calls.run("3, the previous operation", "add(0,1,5,0) -> 0, add(7,1,2,3) -> 1, set(0,9,0,4,5) -> 0",
                "set(0,12,0,0,0) -> 9, set(1,10,0,1,0) -> 7, set(1,10,0,0,0) -> 10, part(0,0) -> 1012",
                "part(1,0) -> 1010, part(1,1) -> 1000, part(1,2) -> 1000, part(1,3) -> 1000, size() -> 2");
        Calls.run("3, the parts", "add(12,0,0,0) -> 0, set(0,2,7,6,5) -> 12, part(0,0) -> 1002, part(0,1) -> 1007",
                "part(0,2) -> 1006, part(0,3) -> 1005");
        Calls.run("3, blocks follow", "add(0,1,5,0) -> 0, add(0,1,5,0) -> 1, add(0,1,5,0) -> 2, blockCount() -> 1",
                "set(0,10,0,2,0) -> 0, blockCount() -> 3, set(0,10,0,3,0) -> 10, blockCount() -> -6",
                "set(0,0,1,5,0) -> 10, blockCount() -> 1");
    }

    private static void setRefusesInOrder() {
        Calls.run("3, no instruction", "set(0,0,0,0,0) -> -1, set(-1,0,0,0,0) -> -1, set(0,13,0,0,0) -> -1",
                "set(40,0,0,0,0) -> -1, set(-2147483648,0,0,0,0) -> -1, undo() -> -4");
        Calls.run("3, the order", "add(12,0,0,0) -> 0, set(0,13,0,0,0) -> -2, set(0,0,0,1000,0) -> -2",
                "set(1,12,0,0,0) -> -1, addTemplate(3,3,3,0) -> 0, pack() -> 1, set(0,12,0,0,0) -> -5",
                "set(0,12,0,0,1) -> -2, set(1,12,0,0,1) -> -1, set(1,12,0,0,0) -> -1, part(0,0) -> 1012",
                "unpack() -> 1, undo() -> 0");
    }

    private static void removeLastAndSize() {
        Calls.run("4 and 5, removing", "size() -> 0, add(0,1,5,0) -> 0, add(0,2,5,0) -> 1, size() -> 2",
                "removeLast() -> 1, size() -> 1, part(1,0) -> -1, part(0,1) -> 1001, removeLast() -> 0, size() -> 0",
                "removeLast() -> -4, size() -> 0");
        Calls.run("4 and 5, the order", "pack() -> 0, removeLast() -> -5, size() -> 0, unpack() -> 0",
                "removeLast() -> -4, add(12,0,0,0) -> 0, addTemplate(3,3,3,0) -> 0, pack() -> 1, removeLast() -> -5",
                "size() -> 1, unpack() -> 1, removeLast() -> 0");
        Calls.run("4, removing a target", "add(10,0,1,0) -> 0, add(12,0,0,0) -> 1, blockCount() -> 2",
                "removeLast() -> 1, blockCount() -> -6, add(12,0,0,0) -> 1, blockCount() -> 2");
    }

    private static void part() {
        Calls.run("6, the parts", "add(0,7,-999,0) -> 0, part(0,0) -> 1000, part(0,1) -> 1007, part(0,2) -> 1",
                "part(0,3) -> 1000, add(11,0,39,6) -> 1, part(1,0) -> 1011, part(1,1) -> 1000, part(1,2) -> 1039",
                "part(1,3) -> 1006, add(0,0,999,0) -> 2, part(2,2) -> 1999");
        Calls.run("6, refusals", "part(0,0) -> -1, part(0,9) -> -1, add(12,0,0,0) -> 0, part(0,4) -> -2",
                "part(0,-1) -> -2, part(1,0) -> -1, part(1,4) -> -1, part(-1,0) -> -1, part(2147483647,0) -> -1",
                "part(0,2147483647) -> -2");
    }

    private static void undoOfEachChange() {
        Calls.run("7, undo of add", "add(0,1,5,0) -> 0, add(0,2,6,0) -> 1, undo() -> 1, size() -> 1, part(0,1) -> 1001",
                "undo() -> 0, size() -> 0, undo() -> -4");
        Calls.run("7, undo of set", "add(0,1,5,0) -> 0, set(0,7,2,3,4) -> 0, undo() -> 1, part(0,0) -> 1000",
                "part(0,1) -> 1001, part(0,2) -> 1005, part(0,3) -> 1000, size() -> 1");
        Calls.run("7, undo of removeLast", "add(0,1,5,0) -> 0, add(7,2,3,4) -> 1, removeLast() -> 1, undo() -> 2",
                "size() -> 2, part(1,0) -> 1007, part(1,1) -> 1002, part(1,2) -> 1003, part(1,3) -> 1004");
        Calls.run("7, removed and added", "add(0,1,5,0) -> 0, removeLast() -> 0, add(7,2,3,4) -> 0, undo() -> 2",
                "size() -> 0, undo() -> 1, part(0,0) -> 1000, part(0,2) -> 1005, undo() -> 0, size() -> 0");
        Calls.run("7, a change that changes nothing", "add(0,1,5,0) -> 0, set(0,0,1,5,0) -> 0, set(0,0,1,5,0) -> 0",
                "undo() -> 2, undo() -> 1, part(0,2) -> 1005, undo() -> 0, size() -> 0");
        Calls.run("7, an undone change is gone", "add(0,1,5,0) -> 0, set(0,0,1,6,0) -> 0, undo() -> 1",
                "set(0,0,1,7,0) -> 0, undo() -> 1, part(0,2) -> 1005, undo() -> 0, undo() -> -4");
        Calls.run("7, blocks follow", "add(12,0,0,0) -> 0, add(0,1,5,0) -> 1, blockCount() -> 2, undo() -> 1",
                "blockCount() -> 1, set(0,10,0,1,0) -> 12, blockCount() -> -6, undo() -> 1, blockCount() -> 1");
    }

    private static void undoOfTenChanges() {
        SlotBundler bundler = new SlotBundler();
        for (int k = 0; k < 13; k++) {
            bundler.add(0, 1, k, 0);
        }
        for (int k = 9; k >= 0; k--) {
            Calls.due("7, ten changes", bundler.undo(), k);
        }
        Calls.due("7, the eleventh", bundler.undo(), -4);
        Calls.due("7, three are left", bundler.size(), 3);
        for (int k = 0; k < 25; k++) {
            bundler.set(2, 0, 1, 100 + k, 0);
        }
        Calls.due("7, the latest first", bundler.undo(), 9);
        Calls.due("7, the one before", bundler.part(2, 2), 1123);
        for (int k = 8; k >= 0; k--) {
            Calls.due("7, ten sets", bundler.undo(), k);
        }
        Calls.due("7, ten before", bundler.part(2, 2), 1114);
        Calls.due("7, no more", bundler.undo(), -4);
    }

    private static void undoLeavesTheRest() {
        Calls.run("7, no part of the history", "add(0,1,5,0) -> 0, add(12,0,0,0) -> 1, addTemplate(0,1,3,0) -> 0",
                "setRegister(3,9) -> 1, setMemory(3,8) -> 1, pack() -> 1, undo() -> -5, unpack() -> 1, run(9) -> 2",
                "undo() -> 1, templateCount() -> 1, register(3) -> 9, memory(3) -> 8, register(1) -> 5",
                "clearTemplates() -> 1, undo() -> 0, templateCount() -> 0, undo() -> -4");
        Calls.run("7, refused calls are no changes", "add(0,1,5,0) -> 0, add(0,8,5,0) -> -2, set(0,0,8,5,0) -> -2",
                "set(1,0,1,5,0) -> -1, undo() -> 0, removeLast() -> -4, undo() -> -4");
        Calls.run("7, the order", "pack() -> 0, undo() -> -5, unpack() -> 0, undo() -> -4");
    }
}
