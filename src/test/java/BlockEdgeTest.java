/** The boundary cases of promises 8 to 11 and of "Instructions", "Blocks" and "Latencies", a sentence each. */
public final class BlockEdgeTest {
    private static final String[] COMPLETE = {States.PROGRAM, States.PACKED};

    public static void main(String[] args) {
        completeness();
        targetsUpTo39();
        beginsOfBlocks();
        countOfBlocks();
        blockOf();
        blockBegin();
        latencies();
        atLeastOne();
        noDistance();
        theGreatestOne();
        storesAndLoads();
        exits();
        arguments();
        orderOfDistance();
        Calls.end("BlockEdgeTest");
    }

    private static void completeness() {
        String title = "Instructions: complete if it has an instruction with the number of each target";
        for (int operation = 10; operation <= 11; operation++) {
            String jump = "(" + operation + ",0,";
            Calls.run(title, "add" + jump + "0,0) -> 0, blockCount() -> 1, set(0," + operation + ",0,1,0)",
                    "blockCount() -> -6",
                    "add(12,0,0,0) -> 1, blockCount() -> 2, set(0," + operation + ",0,2,0), blockCount() -> -6",
                    "removeLast() -> 1, set(0," + operation + ",0,1,0), blockCount() -> -6, undo(), undo(), undo()",
                    "blockCount() -> 2, undo(), blockCount() -> -6, undo(), blockCount() -> 1");
        }
        Calls.run(title, "add(11,0,2,0) -> 0, add(10,0,1,0) -> 1, blockCount() -> -6, add(12,0,0,0) -> 2",
                "blockCount() -> 3, set(1,10,0,3,0) -> 10, blockCount() -> -6, set(1,12,0,0,0) -> 10",
                "blockCount() -> 3");
        Calls.run("Instructions: only jumps and branches have targets", "add(0,1,39,0) -> 0, add(1,7,7,7) -> 1",
                "add(8,7,7,0) -> 2, add(9,0,7,7) -> 3, add(12,0,0,0) -> 4, blockCount() -> 1");
    }

    private static void targetsUpTo39() {
        for (int operation = 10; operation <= 11; operation++) {
            SlotBundler bundler = new SlotBundler();
            String title = "Details: the targets from 0 to 39, operation " + operation;
            Calls.due(title, bundler.add(operation, 0, 39, 0), 0);
            for (int k = 1; k < 40; k++) {
                Calls.due(title + ", incomplete", bundler.blockCount(), -6);
                Calls.due(title + ", incomplete", bundler.blockOf(0), -6);
                Calls.due(title + ", incomplete", bundler.pack(), -6);
                Calls.due(title + ", one more", bundler.add(0, 1, 5, 0), k);
            }
            Calls.go(title, bundler, "blockCount() -> 3, blockBegin(0) -> 0, blockBegin(1) -> 1, blockBegin(2) -> 39",
                    "blockOf(38) -> 1, blockOf(39) -> 2, set(39," + operation + ",0,0,0) -> 0, blockCount() -> 3",
                    "removeLast() -> 39, blockCount() -> -6");
        }
    }

    private static void beginsOfBlocks() {
        Calls.run("Blocks: instruction 0", "add(0,1,5,0) -> 0, blockCount() -> 1, blockBegin(0) -> 0, blockOf(0) -> 0");
        Calls.run("Blocks: all targets", "add(0,1,5,0), add(0,1,5,0), add(0,1,5,0), add(10,0,0,0), blockCount() -> 1",
                "set(3,10,0,1,0), blockCount() -> 2, blockBegin(1) -> 1, set(3,11,0,2,0), blockBegin(1) -> 2",
                "set(3,11,0,3,0), blockCount() -> 2, blockBegin(1) -> 3, blockOf(2) -> 0, blockOf(3) -> 1");
        for (String exit : new String[] {"10,0,0,0", "11,0,0,0", "12,0,0,0"}) {
            String title = "Blocks: all instructions behind exits, " + exit;
            Calls.run(title, "add(" + exit + ") -> 0, blockCount() -> 1, add(0,1,5,0) -> 1, blockCount() -> 2",
                    "blockBegin(1) -> 1, blockOf(0) -> 0, blockOf(1) -> 1, add(" + exit + ") -> 2, blockCount() -> 2",
                    "blockBegin(2) -> -1, blockOf(2) -> 1");
        }
        Calls.run("Blocks: no other instruction", "add(9,0,1,1), add(8,1,1,0), add(7,1,1,1), add(0,1,0,0)",
                "add(1,1,1,1), add(2,1,1,1), add(3,1,1,1), add(4,1,1,1), add(5,1,1,1), add(6,1,1,1), add(12,0,0,0)",
                "blockCount() -> 1, blockOf(10) -> 0, blockBegin(1) -> -1");
        Calls.run("Blocks: a target behind an exit begins one block", "add(10,0,1,0), add(11,0,1,1), add(10,0,1,0)",
                "blockCount() -> 3, blockBegin(0) -> 0, blockBegin(1) -> 1, blockBegin(2) -> 2, blockBegin(3) -> -1");
    }

    private static void countOfBlocks() {
        Twins.look("8, 0 for a program without instructions", States.NEW, "blockCount() -> 0");
        Twins.look("8, 0 for a program without instructions", States.EMPTY_PACKED, "blockCount() -> 0");
        Calls.run("8, 0 for a program without instructions", "add(10,0,5,0) -> 0, blockCount() -> -6",
                "removeLast() -> 0, blockCount() -> 0");
        Twins.refuse("8, INCOMPLETE", States.INCOMPLETE, "blockCount() -> -6");
        Twins.look("8, the number of blocks", States.PACKED, "blockCount() -> 3");
        SlotBundler bundler = Calls.run("8, forty blocks", Calls.times(40, "add(12,0,0,0)"), "blockCount() -> 40");
        for (int k = 0; k < 40; k++) {
            Calls.due("9, each of 40", bundler.blockOf(k), k);
            Calls.due("10, each of 40", bundler.blockBegin(k), k);
        }
        Calls.go("9 and 10, behind the last of 40", bundler, "blockOf(40) -> -1, blockBegin(40) -> -1",
                "blockBegin(41) -> -1");
    }

    private static void blockOf() {
        for (String state : COMPLETE) {
            Twins.look("9, the block", state, "blockOf(0) -> 0, blockOf(3) -> 0, blockOf(4) -> 1, blockOf(5) -> 2",
                    "blockOf(6) -> 2");
            Twins.refuse("9, NO_SUCH_ELEMENT if there is no such instruction", state, "blockOf(-1) -> -1",
                    "blockOf(7) -> -1, blockOf(40) -> -1, blockOf(-2147483648) -> -1, blockOf(2147483647) -> -1");
        }
        Twins.refuse("9, NO_SUCH_ELEMENT is checked first", States.INCOMPLETE, "blockOf(-1) -> -1, blockOf(7) -> -1");
        Twins.refuse("9, INCOMPLETE", States.INCOMPLETE, "blockOf(0) -> -6, blockOf(6) -> -6");
        Twins.refuse("9, without instructions", States.NEW, "blockOf(0) -> -1, blockOf(-1) -> -1");
    }

    private static void blockBegin() {
        for (String state : COMPLETE) {
            Twins.look("10, the first instruction", state, "blockBegin(0) -> 0, blockBegin(1) -> 4",
                    "blockBegin(2) -> 5");
            Twins.refuse("10, NO_SUCH_ELEMENT if there is no such block", state, "blockBegin(-1) -> -1",
                    "blockBegin(3) -> -1, blockBegin(39) -> -1, blockBegin(-2147483648) -> -1",
                    "blockBegin(2147483647) -> -1");
        }
        Twins.refuse("10, INCOMPLETE is checked first", States.INCOMPLETE, "blockBegin(-1) -> -6, blockBegin(3) -> -6");
        Twins.refuse("10, INCOMPLETE", States.INCOMPLETE, "blockBegin(0) -> -6");
        Twins.refuse("10, without instructions", States.NEW, "blockBegin(0) -> -1, blockBegin(-1) -> -1");
        Twins.refuse("10, without instructions", States.EMPTY_PACKED, "blockBegin(0) -> -1");
    }

    private static int latency(int operation) {
        return operation == 7 ? 3 : operation == 8 ? 2 : 1;
    }

    /** An instruction that writes register d and reads no register of 1 to 3. */
    private static String writer(int operation, int d) {
        return "add(" + operation + "," + d + "," + (operation == 0 ? "1" : "5") + ","
                + (operation == 0 || operation == 8 ? "0" : "6") + ")";
    }

    private static void latencies() {
        String title = "Latencies: of a multiplication 3, of a load 2, and of everything else 1";
        for (int operation = 0; operation <= 8; operation++) {
            int latency = latency(operation);
            for (String reader : new String[] {"1,3,2,7", "2,3,7,2", "7,3,2,2", "8,3,2,0", "9,0,2,7", "9,0,7,2",
                "11,0,0,2"}) {
                Calls.run(title, writer(operation, 2), "add(" + reader + ")", "distance(0,1) -> " + latency,
                        "addTemplate(0,2,3,4), pack() -> " + (latency + 1), "placeOf(1,2) -> " + latency);
            }
            Calls.run(title, writer(operation, 2), "addTemplate(0,2,1,7), pack() -> 1",
                    "cycles(0) -> " + (latency + (operation == 7 ? 1 : 0)));
        }
        Calls.run(title, "add(9,0,1,2), add(12,0,0,0), add(10,0,2,0), add(11,0,0,1), addTemplate(0,1,2,0)",
                "addTemplate(3,2,2,0), pack() -> 4, cycles(0) -> 1, cycles(1) -> 1, cycles(2) -> 1");
    }

    private static void atLeastOne() {
        String title = "Latencies: the latency of i minus the latency of j plus 1, but at least 1";
        for (int i = 0; i <= 8; i++) {
            for (int j = 0; j <= 8; j++) {
                int due = Math.max(1, latency(i) - latency(j) + 1);
                Calls.run(title, writer(i, 3), writer(j, 3), "distance(0,1) -> " + due);
            }
        }
        Calls.run(title, "add(7,1,5,6), add(0,1,5,0), distance(0,1) -> 3, set(1,8,1,5,0), distance(0,1) -> 2",
                "set(1,7,1,5,6), distance(0,1) -> 1, set(0,8,1,5,0), distance(0,1) -> 1, set(0,0,1,5,0)",
                "distance(0,1) -> 1");
    }

    private static void noDistance() {
        String title = "Latencies: there is no distance if none applies";
        for (int i = 0; i <= 9; i++) {
            for (int j = 0; j <= 9; j++) {
                boolean memory = i == 9 && j >= 8 || i == 8 && j == 9;
                String first = i == 9 ? "add(9,0,5,6)" : writer(i, 3);
                String second = j == 9 ? "add(9,0,5,6)" : writer(j, 4);
                Calls.run(title, first, second, "distance(0,1) -> " + (!memory ? -4 : i == 9 ? 1 : 0));
            }
        }
        String both = "add(0,1,5,0) -> 0, add(0,2,5,0) -> 1";
        Twins.refuse("11, NONE if there is no distance", both, "distance(0,1) -> -4");
        Twins.refuse("11, NONE if there is no distance", both + ", addTemplate(0,0,0,0), pack() -> 1",
                "distance(0,1) -> -4");
        Twins.look("Latencies: 0, if i reads a register that j writes", "add(1,1,2,3) -> 0, add(0,2,5,0) -> 1",
                "distance(0,1) -> 0");
        Calls.run(title, "add(1,1,2,3), add(0,4,5,0), distance(0,1) -> -4, set(1,0,2,5,0), distance(0,1) -> 0",
                "set(1,0,3,5,0), distance(0,1) -> 0, set(1,0,1,5,0), distance(0,1) -> 1, set(1,0,0,5,0)",
                "distance(0,1) -> -4, set(1,0,7,5,0), distance(0,1) -> -4");
    }

    private static void theGreatestOne() {
        String title = "Latencies: the greatest one of those that apply";
        Calls.run(title, "add(7,1,2,2), add(7,1,1,3), distance(0,1) -> 3, set(1,7,2,1,3), distance(0,1) -> 3",
                "set(1,7,2,3,3), distance(0,1) -> 0, set(1,8,1,2,0), distance(0,1) -> 2, set(0,8,1,1,0)",
                "distance(0,1) -> 1, set(1,8,1,1,0), distance(0,1) -> 2");
        Calls.run(title, "add(8,1,2,0), add(9,0,2,1), distance(0,1) -> 2, set(1,9,0,1,2), distance(0,1) -> 2",
                "set(1,9,0,2,2), distance(0,1) -> 0, set(0,9,0,1,1), distance(0,1) -> 1, set(1,8,1,1,0)",
                "distance(0,1) -> 1");
    }

    private static void storesAndLoads() {
        String title = "Details: a store and a later store or load have the distance 1, whatever cells they address";
        Calls.run(title, "add(9,0,1,2), add(9,0,3,4), distance(0,1) -> 1, set(1,9,0,1,2), distance(0,1) -> 1",
                "set(1,8,5,1,0), distance(0,1) -> 1, set(1,8,5,3,0), distance(0,1) -> 1, set(0,8,6,7,0)",
                "distance(0,1) -> -4, set(1,9,0,3,4), distance(0,1) -> 0, set(1,9,0,7,7), distance(0,1) -> 0");
        Calls.run("Latencies: i is a store and j writes what it reads", "add(9,0,1,2), add(8,1,3,0)",
                "distance(0,1) -> 1",
                "set(1,0,1,3,0), distance(0,1) -> 0, set(1,0,2,3,0), distance(0,1) -> 0, set(1,0,3,3,0)",
                "distance(0,1) -> -4");
    }

    private static void exits() {
        String title = "Latencies: 0, if j is an exit";
        for (int i = 0; i <= 9; i++) {
            String first = i == 9 ? "add(9,0,5,6)" : writer(i, 3);
            Calls.run(title, first, "add(12,0,0,0), distance(0,1) -> 0, set(1,10,0,0,0), distance(0,1) -> 0",
                    "set(1,11,0,0,4), distance(0,1) -> 0");
            if (i <= 8) {
                Calls.run("Details: a branch reads its register b", first, "add(11,0,0,3)",
                        "distance(0,1) -> " + latency(i));
            }
        }
    }

    private static void arguments() {
        for (String state : new String[] {States.PROGRAM, States.PACKED, States.INCOMPLETE}) {
            Twins.refuse("11, NO_SUCH_ELEMENT if there is no such instruction", state, "distance(-1,0) -> -1",
                    "distance(0,-1) -> -1, distance(0,7) -> -1, distance(7,0) -> -1, distance(7,8) -> -1",
                    "distance(-2147483648,6) -> -1, distance(5,2147483647) -> -1, distance(40,40) -> -1");
        }
        for (String state : COMPLETE) {
            Twins.refuse("11, BAD_VALUE if j is not greater than i", state, "distance(0,0) -> -2, distance(1,0) -> -2",
                    "distance(6,5) -> -2, distance(6,6) -> -2, distance(6,0) -> -2");
            Twins.refuse("11, BAD_VALUE if they are in different blocks", state, "distance(3,4) -> -2",
                    "distance(4,5) -> -2, distance(0,6) -> -2, distance(0,4) -> -2");
            Twins.look("11, the distance to a later one of the same block", state, "distance(0,1) -> -4",
                    "distance(0,2) -> 3, distance(2,3) -> 1, distance(0,3) -> 0, distance(5,6) -> 0");
        }
        Calls.run("11, the first and the last of 40", States.FULL, "distance(0,38) -> 0, distance(7,38) -> 1",
                "distance(38,39) -> -2, distance(39,40) -> -1, distance(0,8) -> 1, distance(0,7) -> -4");
        Twins.refuse("11, without instructions", States.NEW, "distance(0,0) -> -1, distance(0,1) -> -1");
    }

    private static void orderOfDistance() {
        Twins.refuse("11, NO_SUCH_ELEMENT is checked first", States.INCOMPLETE, "distance(7,0) -> -1");
        Twins.refuse("11, INCOMPLETE is checked second", States.INCOMPLETE, "distance(0,0) -> -6, distance(1,0) -> -6",
                "distance(0,6) -> -6, distance(0,2) -> -6");
    }
}
