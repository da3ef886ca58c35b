/** The boundary cases of promises 16 to 22 and of "Templates", "Packing", "Cycles" and "Changes", a sentence each. */
public final class PackingEdgeTest {
    private static final String[] UNPACKED = {States.NEW, States.PROGRAM, States.INCOMPLETE, States.IMPOSSIBLE,
        States.FULL, States.SIXTY};

    public static void main(String[] args) {
        typesOfSlots();
        atMostThePresentGroup();
        sameGroup();
        stopMarks();
        groupsOfEachBlock();
        mostInstructions();
        fewestStopMarks();
        mostStopMarks();
        trials();
        instructionsLeft();
        emptyBundles();
        sixtyBundlesOfOneBlock();
        sixtyBundlesOfAllBlocks();
        orderOfPack();
        withoutTemplates();
        noPackingAfterwards();
        packedAgain();
        unpack();
        bundleCount();
        bundle();
        placeOf();
        cycles();
        emptySlots();
        Calls.end("PackingEdgeTest");
    }

    private static void typesOfSlots() {
        int[] typeOf = {0, 0, 0, 0, 0, 0, 0, 2, 0, 0, 3, 3, 3};
        for (int operation = 0; operation <= 12; operation++) {
            for (int type = 0; type <= 3; type++) {
                boolean fits = type == typeOf[operation] || type == 1 && operation <= 6;
                int other = operation == 7 ? 3 : 2;
                for (int slot = 0; slot <= 2; slot++) {
                    String types = (slot == 0 ? type : other) + "," + (slot == 1 ? type : other) + ","
                            + (slot == 2 ? type : other);
                    Calls.run("Templates: operation " + operation + " in slot " + slot + " of type " + type,
                            "add(" + operation + ",0,0,0) -> 0, addTemplate(" + types + ",0) -> 0",
                            fits ? "pack() -> 1, placeOf(0,1) -> " + slot : "pack() -> -8, least(0,4) -> -4");
                }
            }
        }
    }

    private static void atMostThePresentGroup() {
        String title = "Packing: the group of i plus this distance is at most the present group";
        // The second bundle begins in group 2, and the result is there from group 3 on.
        Calls.run(title, "add(7,1,2,2), add(1,3,1,1), addTemplate(2,3,3,6), addTemplate(3,1,1,1), pack() -> 2",
                "placeOf(1,0) -> 1, placeOf(1,1) -> 1, placeOf(1,2) -> 3, unpack() -> 2, clearTemplates() -> 2",
                "addTemplate(2,3,3,6), addTemplate(3,1,1,2), pack() -> 2, placeOf(1,1) -> 2, placeOf(1,2) -> 3",
                "unpack() -> 2, clearTemplates() -> 2, addTemplate(2,3,3,6), addTemplate(1,3,3,1), pack() -> 3",
                "placeOf(1,0) -> 2, placeOf(1,2) -> 4");
        for (int distance = 1; distance <= 3; distance++) {
            String first = distance == 3 ? "add(7,1,2,2)" : distance == 2 ? "add(8,1,2,0)" : "add(9,0,2,2)";
            String second = distance == 1 ? "add(9,0,3,3)" : "add(9,0,1,1)";
            Calls.run(title, first, second, "distance(0,1) -> " + distance, "addTemplate(0,2,3,4), pack() -> "
                    + (distance + 1), "placeOf(0,2) -> 0, placeOf(1,0) -> " + distance, "placeOf(1,2) -> " + distance);
        }
        Calls.run("Packing: for each earlier instruction i of the block", "add(7,1,2,2), add(0,3,5,0), add(0,4,5,0)",
                "add(0,5,5,0), add(0,6,5,0), add(1,7,1,3), addTemplate(2,0,1,4), pack() -> 4, placeOf(4,0) -> 1",
                "placeOf(5,0) -> 3, placeOf(5,2) -> 3");
        Calls.run("Packing: of the block, not of those before", "add(7,1,2,2), add(12,0,0,0), add(1,3,1,1)",
                "addTemplate(2,3,3,0), addTemplate(1,3,3,0), pack() -> 2, placeOf(2,2) -> 0");
    }

    private static void sameGroup() {
        String title = "Details: an instruction whose distances allow it can come into the group of an earlier one";
        Calls.run(title, "add(1,1,2,3), add(0,2,5,0), addTemplate(0,0,3,0), pack() -> 1, placeOf(1,2) -> 0",
                "unpack(), set(1,0,4,5,0), distance(0,1) -> -4, pack() -> 1, placeOf(1,2) -> 0, unpack()",
                "set(1,0,1,5,0), distance(0,1) -> 1, pack() -> -8");
        Calls.run(title, "add(8,1,2,0), add(9,0,2,3), addTemplate(0,0,3,0), pack() -> 1, placeOf(1,2) -> 0",
                "unpack(), set(0,9,0,2,3), distance(0,1) -> 1, pack() -> -8");
        Calls.run(title, "add(7,1,2,2), add(12,0,0,0), addTemplate(2,3,3,0), pack() -> 1, placeOf(1,2) -> 0",
                "unpack(), set(1,11,0,0,2), pack() -> 1, placeOf(1,2) -> 0, unpack(), set(1,11,0,0,1), pack() -> -8");
    }

    private static void stopMarks() {
        for (int stops = 0; stops <= 7; stops++) {
            SlotBundler bundler = Calls.run("Packing: stop marks " + stops, "add(0,0,1,0), add(0,1,1,0), add(0,2,1,0)",
                    "add(0,3,1,0), add(0,4,1,0), add(0,5,1,0), addTemplate(0,1,0," + stops + "), pack() -> 2");
            int group = 0;
            for (int k = 0; k < 6; k++) {
                Calls.due("Packing: group of " + k + ", stop marks " + stops, bundler.placeOf(k, 2), group);
                group += stops >> k % 3 & 1;
            }
            Calls.due("Packing: cycles, stop marks " + stops, bundler.cycles(0), bundler.placeOf(5, 2) + 1);
        }
        Calls.run("Packing: after a slot that stays empty, too", "add(0,0,1,0), addTemplate(2,3,1,3), pack() -> 1",
                "placeOf(0,1) -> 2, placeOf(0,2) -> 2");
    }

    private static void groupsOfEachBlock() {
        Calls.run("Details: groups are counted from 0 anew in each block", "add(0,0,1,0), add(12,0,0,0), add(0,1,1,0)",
                "add(12,0,0,0), add(0,1,1,0), addTemplate(1,3,3,5), pack() -> 3, placeOf(0,2) -> 0, placeOf(1,2) -> 1",
                "placeOf(2,2) -> 0, placeOf(3,2) -> 1, placeOf(4,2) -> 0, cycles(0) -> 2, cycles(1) -> 2",
                "cycles(2) -> 1");
    }

    private static void mostInstructions() {
        String title = "Packing: the template by which the most instructions are put into its slots";
        Calls.run(title, "add(0,0,1,0), add(0,1,1,0), addTemplate(1,3,3,1), addTemplate(0,0,3,7), pack() -> 1",
                "bundle(0,3) -> 1, unpack(), removeLast() -> 1, pack() -> 1, bundle(0,3) -> 0");
        Calls.run(title, "add(0,0,1,0), add(0,1,1,0), add(0,2,1,0), addTemplate(0,0,3,0), addTemplate(0,0,0,7)",
                "addTemplate(0,2,3,0), pack() -> 1, bundle(0,3) -> 1, unpack(), removeLast(), pack() -> 1",
                "bundle(0,3) -> 0");
        Calls.run("Packing: one instruction and no stop mark before none and many", "add(0,0,1,0)",
                "addTemplate(2,2,2,7), addTemplate(2,2,1,0), pack() -> 1, bundle(0,3) -> 1, bundle(0,2) -> 0");
    }

    private static void fewestStopMarks() {
        String title = "Packing: the fewest stop marks if this number is greater than 0";
        Calls.run(title, "add(0,0,1,0), addTemplate(0,0,0,7), addTemplate(0,0,0,6)",
                "addTemplate(0,0,0,2)", "pack() -> 1",
                "bundle(0,3) -> 2, unpack(), addTemplate(0,0,0,0), pack() -> 1, bundle(0,3) -> 3");
        Calls.run("Packing: the lowest number among several of these", "add(0,0,1,0), addTemplate(0,0,0,3)",
                "addTemplate(0,0,0,4), addTemplate(1,0,0,1), addTemplate(1,1,1,2), pack() -> 1, bundle(0,3) -> 1");
        Calls.run("Packing: the lowest number of eight alike", "add(0,0,1,0)", Calls.times(8, "addTemplate(1,1,1,5)"),
                "pack() -> 1, bundle(0,3) -> 0");
        Calls.run("Packing: the last of eight", "add(0,0,1,0)", Calls.times(7, "addTemplate(1,1,1,5)"),
                "addTemplate(1,1,1,1) -> 7, pack() -> 1, bundle(0,3) -> 7");
    }

    private static void mostStopMarks() {
        String title = "Packing: the most stop marks if it is 0";
        String waiting = "add(7,1,2,2), add(1,3,1,1), addTemplate(2,3,3,1) -> 0";
        Calls.run(title, waiting, "addTemplate(1,3,3,3) -> 1, addTemplate(1,3,3,0) -> 2, pack() -> 3, bundle(0,3) -> 0",
                "bundle(1,3) -> 1, bundle(1,0) -> -4, bundle(2,3) -> 2, placeOf(1,2) -> 3");
        Calls.run(title, waiting, "addTemplate(3,3,3,7) -> 1, addTemplate(1,3,3,3) -> 2, pack() -> 3, bundle(1,3) -> 1",
                "bundle(2,3) -> 2, placeOf(1,2) -> 4");
        Calls.run("Packing: the lowest number among several of these", waiting, "addTemplate(1,3,3,5) -> 1",
                "addTemplate(3,3,3,6) -> 2, addTemplate(3,3,3,3) -> 3, pack() -> 3, bundle(1,3) -> 1",
                "bundle(2,3) -> 1");
        Calls.run("Packing: 0 only if no template takes any", waiting, "addTemplate(3,3,3,7) -> 1",
                "addTemplate(1,1,1,0) -> 2, pack() -> 3, bundle(1,3) -> 1, bundle(2,3) -> 2");
    }

    private static void trials() {
        String title = "Details: each template is tried from the present group on";
        Calls.run(title, "add(0,1,1,0), add(1,2,1,1), addTemplate(0,0,0,0), addTemplate(0,0,0,4)",
                "addTemplate(3,0,0,2), pack() -> 1, bundle(0,3) -> 2, placeOf(0,2) -> 0, placeOf(1,2) -> 1");
        Calls.run(title, "add(8,1,2,0), add(1,2,1,1), addTemplate(0,3,3,1), addTemplate(1,3,3,6)",
                "addTemplate(3,3,1,1), pack() -> 2, bundle(0,3) -> 0, bundle(1,3) -> 2, placeOf(1,2) -> 2");
        Calls.run("Details: a trial leaves no groups behind", "add(0,1,1,0), add(0,2,1,0), add(1,3,1,2)",
                "addTemplate(0,0,3,4), addTemplate(3,0,0,5), addTemplate(3,3,0,7), pack() -> 2, placeOf(0,2) -> 0",
                "placeOf(1,2) -> 0, bundle(0,3) -> 0, placeOf(2,2) -> 1, bundle(1,3) -> 0");
    }

    private static void instructionsLeft() {
        String title = "Packing: a bundle is begun as long as there are instructions left in the block";
        SlotBundler bundler = Calls.run(title, "addTemplate(0,0,0,4), pack() -> 0, unpack() -> 0");
        for (int count = 1; count <= 40; count++) {
            Calls.go(title, bundler, "add(0," + count % 8 + ",1,0) -> " + (count - 1), "pack() -> " + (count + 2) / 3,
                    "emptySlots() -> " + (count % 3 == 0 ? 0 : 3 - count % 3), "unpack() -> " + (count + 2) / 3);
        }
        Calls.run(title, "add(0,0,1,0), add(0,1,1,0), add(10,0,3,0), add(0,0,1,0), addTemplate(0,0,3,0), pack() -> 2",
                "bundle(0,2) -> 2, bundle(1,0) -> 3, bundle(1,1) -> -4, bundle(1,4) -> 1");
    }

    private static void emptyBundles() {
        String title = "Packing: if a bundle would be empty and its template has no stop mark";
        String waiting = "add(7,1,2,2), add(1,3,1,1), addTemplate(2,1,3,0) -> 0, addTemplate(0,2,3,0) -> 1";
        Twins.refuse(title, waiting, "pack() -> -8");
        Calls.run(title, waiting, "pack() -> -8, undo(), pack() -> 1, unpack(), add(1,3,2,2), pack() -> 1");
        for (int stops = 1; stops <= 4; stops *= 2) {
            Calls.run(title, waiting, "addTemplate(3,3,3," + stops + ") -> 2, pack() -> 5, bundle(1,3) -> 2",
                    "bundle(3,3) -> 2, bundle(4,3) -> 0, placeOf(1,2) -> 3");
        }
        Calls.run(title, waiting, "addTemplate(3,3,3,7) -> 2, pack() -> 3, bundle(1,3) -> 2, bundle(2,3) -> 0");
        Calls.run(title, "add(12,0,0,0), add(7,1,2,2), add(1,3,1,1), addTemplate(2,1,3,0), pack() -> -8",
                "bundleCount() -> -5, set(2,1,3,2,2) -> 1, pack() -> 2");
        Twins.refuse("16, a block that no slot takes", States.IMPOSSIBLE, "pack() -> -8");
        Twins.refuse("16, a block that no slot takes", "add(12,0,0,0), addTemplate(0,1,2,7)", "pack() -> -8");
        Twins.refuse("16, a block that no slot takes", "add(12,0,0,0), addTemplate(0,1,2,0)", "pack() -> -8");
    }

    private static void sixtyBundlesOfOneBlock() {
        String title = "16, not more than 60 bundles";
        String chain = Calls.times(20, "add(7,1,1,1)") + ", addTemplate(1,2,3,4)";
        Calls.run(title, chain, "pack() -> 58, unpack(), add(0,2,1,0), pack() -> 59, unpack(), add(0,2,1,0)",
                "pack() -> 60, bundleCount() -> 60, bundle(59,0) -> 21, bundle(60,0) -> -1, placeOf(21,2) -> 59",
                "cycles(0) -> 60, emptySlots() -> 158, unpack() -> 60, add(0,2,1,0), pack() -> -8, bundleCount() -> -5",
                "undo(), pack() -> 60");
        Twins.refuse(title, chain + ", add(0,2,1,0), add(0,2,1,0), add(0,2,1,0)", "pack() -> -8");
        Twins.refuse("Details: the 60 bundles are those of all, empty ones included", chain + ", add(7,1,1,1)",
                "pack() -> -8");
        Twins.look(title, chain + ", add(0,2,1,0), add(0,2,1,0), pack() -> 60", "bundle(59,0) -> 21, pack() -> 60");
        Calls.run("16, bundles that are never filled", "add(0,1,5,0), addTemplate(2,2,2,7), pack() -> -8");
    }

    private static void sixtyBundlesOfAllBlocks() {
        String title = "Details: the 60 bundles are those of all blocks together";
        Calls.run(title, States.SIXTY, "pack() -> 60, blockCount() -> 3, bundle(57,4) -> 0, bundle(58,4) -> 1",
                "bundle(59,4) -> 2, bundle(60,4) -> -1, unpack() -> 60, add(12,0,0,0), pack() -> -8, blockCount() -> 4",
                "bundleCount() -> -5, removeLast(), pack() -> 60");
        Twins.refuse(title, States.SIXTY + ", add(12,0,0,0) -> 23", "pack() -> -8");
        Twins.refuse(title, States.SIXTY + ", add(12,0,0,0), add(12,0,0,0), add(0,1,5,0)", "pack() -> -8");
        // Two blocks of 28 bundles each, one of 3, and one of 1.
        String blocks = Calls.times(10, "add(7,1,1,1)") + ", add(12,0,0,0), " + Calls.times(10, "add(7,1,1,1)")
                + ", add(12,0,0,0), add(8,1,1,0), add(9,0,1,1), add(12,0,0,0), add(12,0,0,0), addTemplate(2,0,3,4)";
        Calls.run(title, blocks, "pack() -> 60, bundle(27,4) -> 0, bundle(28,4) -> 1, bundle(55,4) -> 1",
                "bundle(56,4) -> 2, bundle(58,4) -> 2, bundle(59,4) -> 3, unpack(), add(12,0,0,0), pack() -> -8");
        Calls.run("16, forty blocks", Calls.times(40, "add(12,0,0,0)"), "addTemplate(3,3,3,0), pack() -> 40",
                "emptySlots() -> 80, cycles(39) -> 1, cycles(40) -> -1");
    }

    private static void orderOfPack() {
        Twins.refuse("16, INCOMPLETE is checked first", States.INCOMPLETE, "pack() -> -6");
        Twins.refuse("16, INCOMPLETE is checked first", "add(10,0,1,0) -> 0", "pack() -> -6");
        Twins.refuse("16, INCOMPLETE is checked first", States.IMPOSSIBLE + ", set(1,10,0,4,0) -> 10", "pack() -> -6");
        Calls.run("16, INCOMPLETE is checked first", "add(10,0,1,0) -> 0, pack() -> -6, set(0,10,0,0,0), pack() -> -8",
                "addTemplate(3,3,3,0), pack() -> 1");
    }

    private static void withoutTemplates() {
        Twins.refuse("16, IMPOSSIBLE if there is a block, but no template", "add(12,0,0,0)", "pack() -> -8");
        Twins.refuse("16, IMPOSSIBLE if there is a block, but no template", States.FULL + ", clearTemplates() -> 8",
                "pack() -> -8");
        Calls.run("16, IMPOSSIBLE if there is a block, but no template", "add(0,1,5,0), addTemplate(1,1,1,4)",
                "pack() -> 1, unpack(), clearTemplates() -> 1, pack() -> -8, least(0,4) -> -4, bundleCount() -> -5",
                "addTemplate(2,2,2,7) -> 0, pack() -> -8, addTemplate(1,1,1,4) -> 1, pack() -> 1, bundle(0,3) -> 1");
        Calls.run("Changes: a program without instructions can be packed", "pack() -> 0, bundleCount() -> 0",
                "unpack() -> 0",
                "addTemplate(0,0,0,0), pack() -> 0, bundleCount() -> 0, bundle(0,0) -> -1, cycles(0) -> -1",
                "codeLength() -> 0, emptySlots() -> 0, pack() -> 0, unpack() -> 0, unpack() -> -5");
    }

    private static void noPackingAfterwards() {
        String title = "16, in which case there is no packing afterwards";
        Calls.run(title, States.PACKED, "unpack() -> 5, clearTemplates() -> 3, pack() -> -8, bundleCount() -> -5",
                "bundle(0,0) -> -5, placeOf(0,0) -> -5, cycles(0) -> -5, emptySlots() -> -5, codeLength() -> -5",
                "code(0) -> -5, codeIndex(0) -> -5, runBundles(1) -> -5, compare(1) -> -5, unpack() -> -5",
                "add(12,0,0,0) -> 7, addTemplate(0,0,0,0) -> 0, undo() -> 7");
        Calls.run(title, States.IMPOSSIBLE, "pack() -> -8, bundleCount() -> -5, add(12,0,0,0) -> 4, pack() -> -8",
                "addTemplate(3,3,3,4) -> 2, pack() -> 5, bundleCount() -> 5");
    }

    private static void packedAgain() {
        String title = "Details: when pack is called while there is a packing, the same one is made again";
        Twins.look(title, States.PACKED, "pack() -> 5");
        Twins.look(title, States.EMPTY_PACKED, "pack() -> 0");
        Twins.look(title, States.FULL_PACKED, "pack() -> 14");
        Twins.look(title, States.SIXTY_PACKED, "pack() -> 60");
    }

    private static void unpack() {
        for (String state : UNPACKED) {
            Twins.refuse("17, STATE if there is none", state, "unpack() -> -5");
            Twins.refuse("18, STATE if there is no packing", state, "bundleCount() -> -5");
        }
        Calls.run("17, the number of its bundles", "pack() -> 0, unpack() -> 0, unpack() -> -5", States.PACKED,
                "unpack() -> 5, unpack() -> -5");
        Calls.run("17, the number of its bundles", States.SIXTY_PACKED, "unpack() -> 60, unpack() -> -5, pack() -> 60");
    }

    private static void bundleCount() {
        Twins.look("18, the number of bundles", States.EMPTY_PACKED, "bundleCount() -> 0");
        Twins.look("18, the number of bundles", States.PACKED, "bundleCount() -> 5");
        Twins.look("18, the number of bundles", States.SIXTY_PACKED, "bundleCount() -> 60");
    }

    private static void bundle() {
        for (String state : UNPACKED) {
            Twins.refuse("19, STATE is checked first", state, "bundle(0,0) -> -5, bundle(-1,0) -> -5",
                    "bundle(0,5) -> -5",
                    "bundle(60,-1) -> -5");
        }
        Twins.refuse("19, NO_SUCH_ELEMENT if there is no such bundle", States.PACKED, "bundle(-1,0) -> -1",
                "bundle(5,0) -> -1, bundle(60,0) -> -1, bundle(-2147483648,4) -> -1, bundle(2147483647,4) -> -1");
        Twins.refuse("19, NO_SUCH_ELEMENT is checked second", States.PACKED, "bundle(5,5) -> -1, bundle(-1,-1) -> -1");
        Twins.refuse("19, NO_SUCH_ELEMENT without bundles", States.EMPTY_PACKED, "bundle(0,0) -> -1",
                "bundle(-1,5) -> -1");
        Twins.refuse("19, NO_SUCH_ELEMENT behind the last of 60", States.SIXTY_PACKED, "bundle(60,0) -> -1");
        Twins.refuse("19, BAD_VALUE", States.PACKED, "bundle(0,-1) -> -2, bundle(0,5) -> -2, bundle(4,5) -> -2",
                "bundle(4,-2147483648) -> -2, bundle(4,2147483647) -> -2");
        Twins.look("19, the part, NONE for an empty slot", States.PACKED, "bundle(0,0) -> 0, bundle(0,1) -> 1",
                "bundle(0,2) -> -4, bundle(1,0) -> -4, bundle(1,1) -> -4, bundle(1,2) -> -4, bundle(1,3) -> 1",
                "bundle(1,4) -> 0, bundle(2,0) -> 2, bundle(2,2) -> 3, bundle(2,3) -> 2, bundle(4,0) -> 5",
                "bundle(4,2) -> 6, bundle(4,3) -> 0, bundle(4,4) -> 2");
        Twins.look("19, the last of 60", States.SIXTY_PACKED, "bundle(59,2) -> 22, bundle(59,4) -> 2",
                "bundle(58,0) -> -4");
    }

    private static void placeOf() {
        for (String state : UNPACKED) {
            Twins.refuse("20, STATE is checked first", state, "placeOf(0,0) -> -5, placeOf(-1,0) -> -5",
                    "placeOf(0,3) -> -5, placeOf(40,-1) -> -5");
        }
        Twins.refuse("20, NO_SUCH_ELEMENT if there is no such instruction", States.PACKED, "placeOf(-1,0) -> -1",
                "placeOf(7,0) -> -1, placeOf(40,0) -> -1, placeOf(-2147483648,2) -> -1, placeOf(2147483647,2) -> -1");
        Twins.refuse("20, NO_SUCH_ELEMENT is checked second", States.PACKED, "placeOf(7,3) -> -1",
                "placeOf(-1,-1) -> -1");
        Twins.refuse("20, NO_SUCH_ELEMENT without instructions", States.EMPTY_PACKED, "placeOf(0,0) -> -1");
        Twins.refuse("20, NO_SUCH_ELEMENT behind the last of 40", States.FULL_PACKED, "placeOf(40,0) -> -1");
        Twins.refuse("20, BAD_VALUE", States.PACKED, "placeOf(0,-1) -> -2, placeOf(0,3) -> -2, placeOf(6,3) -> -2",
                "placeOf(6,-2147483648) -> -2, placeOf(6,2147483647) -> -2");
        Twins.look("20, 0 for the bundle, 1 for the slot, 2 for the group", States.PACKED, "placeOf(0,0) -> 0",
                "placeOf(0,1) -> 0, placeOf(0,2) -> 0, placeOf(3,0) -> 2, placeOf(3,1) -> 2, placeOf(3,2) -> 5",
                "placeOf(6,0) -> 4, placeOf(6,1) -> 2, placeOf(6,2) -> 0");
        Twins.look("20, the last of 40", States.FULL_PACKED, "placeOf(39,0) -> 13, placeOf(39,1) -> 0",
                "placeOf(39,2) -> 0");
    }

    private static void cycles() {
        for (String state : UNPACKED) {
            Twins.refuse("21, STATE is checked first", state, "cycles(0) -> -5, cycles(-1) -> -5, cycles(40) -> -5");
            Twins.refuse("22, STATE if there is no packing", state, "emptySlots() -> -5");
        }
        Twins.refuse("21, NO_SUCH_ELEMENT if there is no such block", States.PACKED, "cycles(-1) -> -1",
                "cycles(3) -> -1",
                "cycles(39) -> -1, cycles(-2147483648) -> -1, cycles(2147483647) -> -1");
        Twins.refuse("21, NO_SUCH_ELEMENT without blocks", States.EMPTY_PACKED, "cycles(0) -> -1, cycles(-1) -> -1");
        Twins.look("21, the cycles", States.PACKED, "cycles(0) -> 6, cycles(1) -> 1, cycles(2) -> 2");
        String title = "Cycles: the greatest sum of the group and the latency of an instruction";
        Calls.run(title, "add(7,1,2,2), add(0,3,1,0), add(0,4,1,0), addTemplate(2,1,1,1), pack() -> 1, cycles(0) -> 3",
                "unpack(), clearTemplates(), addTemplate(2,1,1,3), pack() -> 1, cycles(0) -> 3, unpack()",
                "clearTemplates(), addTemplate(2,1,3,7), pack() -> 2, placeOf(2,2) -> 4, cycles(0) -> 5");
        Calls.run(title, "add(0,1,2,0), addTemplate(3,3,1,7), pack() -> 1, placeOf(0,2) -> 2, cycles(0) -> 3");
        Calls.run("21, not those of an earlier packing", "add(0,1,2,0), add(12,0,0,0), addTemplate(3,3,1,7)",
                "addTemplate(3,3,3,3), pack() -> 2, cycles(0) -> 4, unpack(), clearTemplates(), addTemplate(1,3,3,0)",
                "pack() -> 1, cycles(0) -> 1, cycles(1) -> -1");
    }

    private static void emptySlots() {
        Twins.look("22, the number of empty slots of all bundles", States.EMPTY_PACKED, "emptySlots() -> 0");
        Twins.look("22, the number of empty slots of all bundles", States.PACKED, "emptySlots() -> 8");
        Twins.look("22, the number of empty slots of all bundles", States.SIXTY_PACKED, "emptySlots() -> 157");
        Calls.run("22, none is empty", "add(0,1,2,0), add(0,2,2,0), add(12,0,0,0), addTemplate(1,1,3,0), pack() -> 1",
                "emptySlots() -> 0, unpack(), removeLast(), pack() -> 1, emptySlots() -> 1");
    }
}
