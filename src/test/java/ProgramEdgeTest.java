/** The boundary cases of promises 1 to 7 and of "Instructions", "Changes" and "History", a sentence each. */
public final class ProgramEdgeTest {
    private static final int MIN = Integer.MIN_VALUE;
    private static final int MAX = Integer.MAX_VALUE;
    /** For each operation the least and the greatest number of d, of a and of b. */
    private static final int[][] RANGES = {{0, 7, -999, 999, 0, 0}, {0, 7, 0, 7, 0, 7}, {0, 7, 0, 7, 0, 7},
        {0, 7, 0, 7, 0, 7}, {0, 7, 0, 7, 0, 7}, {0, 7, 0, 7, 0, 7}, {0, 7, 0, 7, 0, 7}, {0, 7, 0, 7, 0, 7},
        {0, 7, 0, 7, 0, 0}, {0, 0, 0, 7, 0, 7}, {0, 0, 0, 39, 0, 0}, {0, 0, 0, 39, 0, 7}, {0, 0, 0, 0, 0, 0}};

    public static void main(String[] args) {
        aNewObject();
        operations();
        for (int operation = 0; operation <= 12; operation++) {
            for (int number = 1; number <= 3; number++) {
                numbersOfAdd(operation, number);
                numbersOfSet(operation, number);
                refusedNumbers(operation, number);
            }
        }
        fortyInstructions();
        orderOfAdd();
        instructionsOfSet();
        orderOfSet();
        removeLast();
        size();
        part();
        programIsChangedOnlyWithoutPacking();
        undo();
        latestTenChanges();
        changesThatChangeNothing();
        refusedCallsAreNoChanges();
        undoneChangesAreGone();
        restIsNoPartOfTheHistory();
        fiveHundredAndTwelveCalls();
        Calls.end("ProgramEdgeTest");
    }

    private static void aNewObject() {
        Twins.refuse("1, without instructions and templates", States.NEW, "removeLast() -> -4, undo() -> -4",
                "part(0,0) -> -1, set(0,12,0,0,0) -> -1, blockOf(0) -> -1, blockBegin(0) -> -1, distance(0,1) -> -1",
                "template(0,0) -> -1, unpack() -> -5, bundleCount() -> -5, bundle(0,0) -> -5, placeOf(0,0) -> -5",
                "cycles(0) -> -5, emptySlots() -> -5, least(0,0) -> -1, codeLength() -> -5, code(0) -> -5",
                "codeIndex(0) -> -5, runBundles(0) -> -5, compare(0) -> -5");
        Twins.look("1, without instructions and templates", States.NEW, "size() -> 0, blockCount() -> 0",
                "templateCount() -> 0, clearTemplates() -> 0, run(0) -> 0, run(300) -> 0");
    }

    private static void operations() {
        String title = "2 and 3, the operation, 0 to 12";
        for (int operation = 0; operation <= 12; operation++) {
            Calls.run(title, "add(" + operation + ",0,0,0) -> 0, part(0,0) -> " + (1000 + operation)
                    + ", set(0," + operation + ",0,0,0) -> " + operation);
        }
        for (String state : new String[] {States.NEW, States.PROGRAM}) {
            Twins.refuse(title, state, "add(-1,0,0,0) -> -2, add(13,0,0,0) -> -2, add(-2147483648,0,0,0) -> -2",
                    "add(2147483647,0,0,0) -> -2, add(14,0,0,0) -> -2, add(256,0,0,0) -> -2");
        }
        Twins.refuse(title, States.PROGRAM, "set(0,-1,0,0,0) -> -2, set(0,13,0,0,0) -> -2",
                "set(6,-2147483648,0,0,0) -> -2, set(6,2147483647,0,0,0) -> -2");
    }

    private static int[] with(int operation, int number, int value, int others) {
        int[] numbers = {operation, others == 0 ? RANGES[operation][0] : RANGES[operation][1],
            others == 0 ? RANGES[operation][2] : RANGES[operation][3],
            others == 0 ? RANGES[operation][4] : RANGES[operation][5]};
        numbers[number] = value;
        return numbers;
    }

    private static boolean isTaken(int operation, int number, int value) {
        return value >= RANGES[operation][2 * number - 2] && value <= RANGES[operation][2 * number - 1];
    }

    /** All numbers around the ranges, with the least and with the greatest numbers beside them. */
    private static void numbersOfAdd(int operation, int number) {
        for (int value = -1010; value <= 1010; value++) {
            int[] one = with(operation, number, value, value & 1);
            SlotBundler bundler = new SlotBundler();
            boolean taken = isTaken(operation, number, value);
            String title = "2, operation " + operation + ", number " + number + " = " + value;
            Calls.due(title, bundler.add(one[0], one[1], one[2], one[3]), taken ? 0 : -2);
            Calls.due(title + ", size", bundler.size(), taken ? 1 : 0);
            Calls.due(title + ", part", bundler.part(0, number), taken ? value + 1000 : -1);
            Calls.due(title + ", undo", bundler.undo(), taken ? 0 : -4);
        }
    }

    private static void numbersOfSet(int operation, int number) {
        for (int value = -1010; value <= 1010; value++) {
            int[] one = with(operation, number, value, value & 1);
            SlotBundler bundler = new SlotBundler();
            bundler.add(7, 6, 5, 4);
            boolean taken = isTaken(operation, number, value);
            String title = "3, operation " + operation + ", number " + number + " = " + value;
            Calls.due(title, bundler.set(0, one[0], one[1], one[2], one[3]), taken ? 7 : -2);
            Calls.due(title + ", operation", bundler.part(0, 0), taken ? operation + 1000 : 1007);
            Calls.due(title + ", part", bundler.part(0, number), taken ? value + 1000 : 1007 - number);
            Calls.due(title + ", undo", bundler.undo(), taken ? 1 : 0);
        }
    }

    /** The first refused number on both sides, and the most extreme ones. */
    private static void refusedNumbers(int operation, int number) {
        int least = RANGES[operation][2 * number - 2];
        int greatest = RANGES[operation][2 * number - 1];
        for (int value : new int[] {least - 1, greatest + 1, MIN, MAX}) {
            int[] one = with(operation, number, value, 1);
            String list = one[0] + "," + one[1] + "," + one[2] + "," + one[3] + ") -> -2";
            Twins.refuse("2, the numbers d, a and b", States.PROGRAM, "add(" + list);
            Twins.refuse("3, the numbers d, a and b", States.PROGRAM, "set(6," + list);
        }
    }

    private static void fortyInstructions() {
        String title = "2, a program has at most 40 instructions";
        SlotBundler bundler = new SlotBundler();
        for (int k = 0; k < 40; k++) {
            Calls.due(title, bundler.add(0, 1, k, 0), k);
        }
        Calls.go(title, bundler, "size() -> 40, add(0,1,40,0) -> -3, size() -> 40, part(39,2) -> 1039",
                "part(40,2) -> -1, removeLast() -> 39, add(0,1,41,0) -> 39, add(0,1,42,0) -> -3, part(39,2) -> 1041",
                "undo() -> 9, size() -> 39, add(0,1,43,0) -> 39, add(0,1,44,0) -> -3, set(39,0,1,45,0) -> 0",
                "part(39,2) -> 1045");
        Twins.refuse(title, States.FULL, "add(12,0,0,0) -> -3, add(0,7,999,0) -> -3");
        Calls.run(title, Calls.times(39, "add(12,0,0,0)"), "add(12,0,0,0) -> 39, add(12,0,0,0) -> -3");
    }

    private static void orderOfAdd() {
        Twins.refuse("2, BAD_VALUE is checked first", States.FULL_PACKED, "add(13,0,0,0) -> -2, add(12,0,0,1) -> -2");
        Twins.refuse("2, BAD_VALUE is checked first", States.PACKED, "add(-1,0,0,0) -> -2, add(0,8,0,0) -> -2");
        Twins.refuse("2, BAD_VALUE is checked first", States.FULL, "add(12,1,0,0) -> -2, add(0,0,1000,0) -> -2");
        Twins.refuse("2, STATE is checked second", States.FULL_PACKED, "add(12,0,0,0) -> -5, add(0,0,999,0) -> -5");
        Twins.refuse("2, STATE if there is a packing", States.PACKED, "add(12,0,0,0) -> -5");
        Twins.refuse("2, STATE if there is a packing", States.EMPTY_PACKED, "add(12,0,0,0) -> -5");
        Calls.run("2, STATE if there is a packing", States.PACKED, "unpack() -> 5, add(12,0,0,0) -> 7");
    }

    private static void instructionsOfSet() {
        String title = "3, NO_SUCH_ELEMENT if there is no such instruction";
        Twins.refuse(title, States.PROGRAM, "set(-1,12,0,0,0) -> -1, set(7,12,0,0,0) -> -1, set(39,12,0,0,0) -> -1",
                "set(40,12,0,0,0) -> -1, set(-2147483648,12,0,0,0) -> -1, set(2147483647,12,0,0,0) -> -1");
        Twins.refuse(title, States.FULL, "set(40,12,0,0,0) -> -1, set(-1,12,0,0,0) -> -1");
        Twins.refuse(title, States.NEW, "set(0,12,0,0,0) -> -1");
        Calls.run(title, States.PROGRAM, "set(0,12,0,0,0) -> 7, set(6,0,0,0,0) -> 12, size() -> 7, part(0,0) -> 1012",
                "part(6,0) -> 1000, set(7,0,0,0,0) -> -1, removeLast() -> 6, set(6,0,0,0,0) -> -1",
                "set(5,12,0,0,0) -> 8");
        Calls.run(title, States.FULL, "set(0,1,2,3,4) -> 0, set(39,1,2,3,4) -> 12, part(39,1) -> 1002");
    }

    private static void orderOfSet() {
        Twins.refuse("3, NO_SUCH_ELEMENT is checked first", States.PACKED, "set(7,13,0,0,0) -> -1",
                "set(-1,0,0,1000,0) -> -1, set(7,12,0,0,0) -> -1");
        Twins.refuse("3, NO_SUCH_ELEMENT is checked first", States.PROGRAM, "set(7,13,0,0,0) -> -1");
        Twins.refuse("3, BAD_VALUE is checked second", States.PACKED, "set(6,13,0,0,0) -> -2, set(0,12,0,0,1) -> -2");
        Twins.refuse("3, STATE if there is a packing", States.PACKED, "set(6,12,0,0,0) -> -5, set(0,7,1,2,2) -> -5");
        Calls.run("3, STATE if there is a packing", States.PACKED, "unpack() -> 5, set(6,12,0,0,0) -> 12");
    }

    private static void removeLast() {
        Twins.refuse("4, NONE if there is no instruction", States.NEW, "removeLast() -> -4");
        Twins.refuse("4, NONE if there is no instruction", "add(12,0,0,0) -> 0, removeLast() -> 0",
                "removeLast() -> -4");
        Twins.refuse("4, STATE is checked first", States.EMPTY_PACKED, "removeLast() -> -5");
        Twins.refuse("4, STATE if there is a packing", States.PACKED, "removeLast() -> -5");
        Twins.refuse("4, STATE if there is a packing", States.FULL_PACKED, "removeLast() -> -5");
        Calls.run("4, the number of instructions that remain", "add(12,0,0,0), removeLast() -> 0, removeLast() -> -4",
                "add(12,0,0,0) -> 0, add(12,0,0,0) -> 1, removeLast() -> 1, removeLast() -> 0, removeLast() -> -4");
        Calls.run("4, the number of instructions that remain", States.FULL, "removeLast() -> 39, part(39,0) -> -1",
                "part(38,0) -> 1011, removeLast() -> 38, part(38,0) -> -1, part(37,0) -> 1000");
        SlotBundler bundler = Calls.run("4, all of 40", States.FULL);
        for (int k = 39; k >= 0; k--) {
            Calls.due("4, all of 40", bundler.removeLast(), k);
        }
        Calls.go("4, all of 40", bundler, "removeLast() -> -4, undo() -> 9, size() -> 1, removeLast() -> 0");
    }

    private static void size() {
        Twins.look("5, the number of instructions", States.NEW, "size() -> 0");
        Twins.look("5, the number of instructions", States.EMPTY_PACKED, "size() -> 0");
        Twins.look("5, the number of instructions", States.PACKED, "size() -> 7");
        Twins.look("5, the number of instructions", States.INCOMPLETE, "size() -> 7");
        Twins.look("5, the number of instructions", States.FULL, "size() -> 40");
    }

    private static void part() {
        String title = "6, NO_SUCH_ELEMENT if there is no such instruction";
        for (String state : new String[] {States.PROGRAM, States.PACKED, States.INCOMPLETE}) {
            Twins.look(title, state, "part(0,0) -> 1007, part(6,0) -> 1012, part(1,2) -> 1005");
            Twins.refuse(title, state, "part(-1,0) -> -1, part(7,0) -> -1, part(40,3) -> -1, part(-2147483648,0) -> -1",
                    "part(2147483647,0) -> -1");
            Twins.refuse("6, NO_SUCH_ELEMENT is checked first", state, "part(7,4) -> -1, part(-1,-1) -> -1");
            Twins.refuse("6, 0 for the operation, 1 for d, 2 for a, 3 for b", state, "part(0,-1) -> -2",
                    "part(0,4) -> -2, part(6,-2147483648) -> -2, part(6,2147483647) -> -2");
            Twins.look("6, 0 for the operation, 1 for d, 2 for a, 3 for b", state, "part(2,0) -> 1001",
                    "part(2,1) -> 1004, part(2,2) -> 1001, part(2,3) -> 1003");
        }
        Twins.look(title, States.FULL, "part(39,0) -> 1012, part(39,3) -> 1000, part(40,0) -> -1, part(40,4) -> -1");
        Calls.run("6, the part plus 1000", "add(0,0,-999,0) -> 0, add(0,7,999,0) -> 1, part(0,2) -> 1",
                "part(1,2) -> 1999, part(0,1) -> 1000, part(1,1) -> 1007");
    }

    private static void programIsChangedOnlyWithoutPacking() {
        String title = "Changes: a call that would change them while there is a packing returns STATE";
        for (String state : new String[] {States.PACKED, States.FULL_PACKED, States.SIXTY_PACKED}) {
            Twins.refuse(title, state, "add(12,0,0,0) -> -5, set(0,12,0,0,0) -> -5, removeLast() -> -5, undo() -> -5",
                    "addTemplate(0,0,0,0) -> -5, clearTemplates() -> -5");
        }
        Twins.refuse(title, States.EMPTY_PACKED, "add(12,0,0,0) -> -5, removeLast() -> -5, undo() -> -5",
                "addTemplate(0,0,0,0) -> -5, clearTemplates() -> -5");
        Calls.run("Changes: the call unpack removes the packing", States.PACKED, "unpack() -> 5, undo() -> 6",
                "removeLast() -> 5, add(12,0,0,0) -> 5, set(0,12,0,0,0) -> 7, addTemplate(0,0,0,0) -> 3",
                "clearTemplates() -> 4");
        Calls.run("Changes: a program without instructions can be packed", States.EMPTY_PACKED, "bundleCount() -> 0",
                "unpack() -> 0, add(12,0,0,0) -> 0");
    }

    private static void undo() {
        Twins.refuse("7, NONE if there is no change to be undone", States.NEW, "undo() -> -4");
        Twins.refuse("7, NONE if there is no change to be undone", "add(12,0,0,0) -> 0, undo() -> 0",
                "undo() -> -4, removeLast() -> -4");
        Twins.refuse("7, STATE is checked first", States.EMPTY_PACKED, "undo() -> -5");
        Twins.refuse("7, STATE if there is a packing", States.PACKED, "undo() -> -5");
        Calls.run("7, the number of changes that can still be undone", "add(0,1,1,0) -> 0, undo() -> 0, undo() -> -4",
                "add(0,1,2,0) -> 0, removeLast() -> 0, undo() -> 1, part(0,2) -> 1002, undo() -> 0, size() -> 0");
        Calls.run("7, the program becomes as it was before it", States.FULL, "removeLast() -> 39, undo() -> 9",
                "size() -> 40, part(39,0) -> 1012, set(39,1,2,3,4) -> 12, undo() -> 9, part(39,0) -> 1012",
                "part(39,1) -> 1000, part(39,2) -> 1000, part(39,3) -> 1000, set(0,1,2,3,4) -> 0, undo() -> 9",
                "part(0,0) -> 1000, part(0,1) -> 1000, part(0,2) -> 1000, part(0,3) -> 1000, undo() -> 8",
                "size() -> 39, blockCount() -> -6, undo() -> 7, size() -> 38, blockCount() -> 1");
    }

    private static void latestTenChanges() {
        for (int changes = 0; changes <= 33; changes++) {
            SlotBundler bundler = new SlotBundler();
            for (int k = 0; k < changes; k++) {
                bundler.add(0, 1, k, 0);
            }
            int most = Math.min(10, changes);
            for (int left = most - 1; left >= 0; left--) {
                Calls.due("7, the latest 10 of " + changes, bundler.undo(), left);
                Calls.due("7, the latest first of " + changes, bundler.size(), changes - most + left);
            }
            Calls.due("7, the next of " + changes, bundler.undo(), -4);
            Calls.due("7, size after " + changes, bundler.size(), changes - most);
        }
        Calls.run("7, changes after undone ones", Calls.times(12, "add(0,1,5,0)"), Calls.times(5, "undo()"),
                "size() -> 7, add(0,1,6,0) -> 7, add(0,1,7,0) -> 8, undo() -> 6, undo() -> 5", Calls.times(4, "undo()"),
                "undo() -> 0, size() -> 2, undo() -> -4, size() -> 2");
        Calls.run("7, full again after undone ones", Calls.times(10, "add(0,1,5,0)"), Calls.times(4, "undo()"),
                Calls.times(4, "set(0,0,1,6,0)"), "undo() -> 9, set(0,0,1,7,0) -> 0, set(0,0,1,8,0) -> 0, undo() -> 9",
                Calls.times(8, "undo()"), "undo() -> 0, size() -> 1, part(0,2) -> 1005, undo() -> -4");
    }

    private static void changesThatChangeNothing() {
        String title = "History: changes, also if nothing changes";
        Calls.run(title, "add(0,1,5,0) -> 0, set(0,0,1,5,0) -> 0, undo() -> 1, part(0,2) -> 1005, undo() -> 0",
                "size() -> 0, undo() -> -4");
        Calls.run(title, "add(0,1,5,0) -> 0", Calls.times(9, "set(0,0,1,5,0)"), Calls.times(9, "undo()"),
                "undo() -> 0, size() -> 0");
        Calls.run(title, "add(0,1,5,0) -> 0", Calls.times(10, "set(0,0,1,5,0)"), Calls.times(9, "undo()"),
                "undo() -> 0, size() -> 1, undo() -> -4");
    }

    private static void refusedCallsAreNoChanges() {
        String title = "History: the calls that return no error code are changes";
        String nine = Calls.times(9, "add(0,1,5,0)");
        for (String refused : new String[] {"add(13,0,0,0) -> -2", "set(10,0,0,0,0) -> -1", "set(0,13,0,0,0) -> -2",
            "add(0,8,0,0) -> -2"}) {
            Calls.run(title, nine, refused, Calls.times(8, "undo()"), "undo() -> 0, size() -> 0");
            Calls.run(title, nine, "add(0,1,5,0) -> 9", refused, Calls.times(9, "undo()"), "undo() -> 0, size() -> 0");
        }
        Calls.run(title, "removeLast() -> -4, undo() -> -4");
        Calls.run(title, "add(0,1,5,0) -> 0, removeLast() -> 0, removeLast() -> -4, undo() -> 1, size() -> 1");
        Calls.run(title, States.FULL, "add(0,1,5,0) -> -3, undo() -> 9, size() -> 39");
        Calls.run(title, States.PACKED, "add(0,1,5,0) -> -5, set(0,0,1,5,0) -> -5, removeLast() -> -5, undo() -> -5",
                "unpack() -> 5, undo() -> 6, size() -> 6");
    }

    private static void undoneChangesAreGone() {
        Calls.run("7, the latest change that was not undone", "add(0,1,5,0) -> 0, add(0,1,6,0) -> 1, undo() -> 1",
                "undo() -> 0, undo() -> -4, size() -> 0");
        Calls.run("7, an undo is no change", "add(0,1,5,0) -> 0, add(0,1,6,0) -> 1, undo() -> 1, add(0,1,7,0) -> 1",
                "undo() -> 1, size() -> 1, undo() -> 0, size() -> 0, undo() -> -4");
    }

    private static void restIsNoPartOfTheHistory() {
        String title = "History: the templates, the packing, registers and memory are no part of it";
        String ten = Calls.times(10, "add(0,1,5,0)");
        Calls.run(title, ten, "addTemplate(0,0,0,4) -> 0, addTemplate(0,0,0,5) -> 1, setRegister(0,1) -> 1",
                "setMemory(0,2) -> 1, pack() -> 5, unpack() -> 5, run(300) -> 10, undo() -> 9",
                "templateCount() -> 2, register(0) -> 1, register(1) -> 5, memory(0) -> 2", Calls.times(8, "undo()"),
                "undo() -> 0, size() -> 0, templateCount() -> 2, register(0) -> 1, register(1) -> 5, memory(0) -> 2",
                "clearTemplates() -> 2, undo() -> -4, templateCount() -> 0");
    }

    private static void fiveHundredAndTwelveCalls() {
        String title = "An object is used for at most 512 calls";
        SlotBundler bundler = Calls.run(title, Calls.times(40, "add(0,1,5,0)"));
        for (int k = 0; k < 458; k++) {
            Calls.due(title, bundler.set(k % 40, 0, 1, k, 0), 0);
        }
        Calls.go(title, bundler, "undo() -> 9, part(17,2) -> 1417, part(16,2) -> 1456, addTemplate(1,1,1,7) -> 0",
                "pack() -> 14, least(0,4) -> -4, cycles(0) -> 40, codeLength() -> 54, code(53) -> 2039",
                "compare(40) -> 1, run(40) -> 40, runBundles(1) -> 40, unpack() -> 14, size() -> 40");
    }
}
