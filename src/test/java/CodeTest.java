/** Promises 24 to 26: codeLength, code, codeIndex. */
public final class CodeTest {
    /** Two blocks, each with two sequences of empty bundles. */
    private static final String TWO_BLOCKS = "add(7,1,2,2) -> 0, add(7,1,1,1) -> 1, add(1,3,1,1) -> 2, "
            + "add(12,0,0,0) -> 3, add(8,1,2,0) -> 4, add(7,1,1,1) -> 5, add(9,0,1,1) -> 6, "
            + "addTemplate(3,3,3,0) -> 0, addTemplate(2,0,3,4) -> 1, pack() -> 13";

    public static void main(String[] args) {
        numbers();
        emptySequences();
        allSlotsAndTemplates();
        refusals();
        Calls.end("CodeTest");
    }

    private static void numbers() {
        Calls.run("24 and 25, three slots", "add(0,1,1,0) -> 0, add(0,2,1,0) -> 1, add(0,3,1,0) -> 2",
                "add(0,4,1,0) -> 3, addTemplate(0,1,0,0) -> 0, pack() -> 2, codeLength() -> 6, code(0) -> 3007",
                "code(1) -> 2000, code(2) -> 2001, code(3) -> 2002, code(4) -> 3001, code(5) -> 2003, code(6) -> -1");
        Calls.run("24 and 25, empty slots between", "add(0,1,1,0) -> 0, add(12,0,0,0) -> 1, addTemplate(0,1,3,0) -> 0",
                "pack() -> 1, codeLength() -> 3, code(0) -> 3005, code(1) -> 2000, code(2) -> 2001");
        Calls.run("24 and 25, without instructions", "pack() -> 0, codeLength() -> 0, code(0) -> -1",
                "codeIndex(0) -> -1");
    }

    private static void emptySequences() {
        Calls.run("24 to 26, empty bundles", TWO_BLOCKS, "codeLength() -> 17, code(0) -> 3009, code(1) -> 2000",
                "code(2) -> 1998, code(3) -> 3009, code(4) -> 2001, code(5) -> 1998, code(6) -> 3014, code(7) -> 2002",
                "code(8) -> 2003, code(9) -> 3010, code(10) -> 2004, code(11) -> 1999, code(12) -> 3009",
                "code(13) -> 2005, code(14) -> 1998, code(15) -> 3010, code(16) -> 2006, code(17) -> -1");
    }

    private static void allSlotsAndTemplates() {
        SlotBundler bundler = new SlotBundler();
        for (int k = 0; k < 7; k++) {
            bundler.addTemplate(0, 1, 2, 7);
        }
        bundler.addTemplate(3, 3, 3, 7);
        for (int k = 0; k < 40; k++) {
            bundler.add(12, 0, 0, 0);
        }
        Calls.due("16, forty blocks", bundler.pack(), 40);
        Calls.due("24, forty bundles", bundler.codeLength(), 80);
        Calls.due("25, the greatest template", bundler.code(78), 3057);
        Calls.due("25, the last instruction", bundler.code(79), 2039);
        for (int block = 0; block < 40; block++) {
            Calls.due("26, block " + block, bundler.codeIndex(block), 2 * block);
        }
        Calls.due("26, behind the last block", bundler.codeIndex(40), -1);
    }

    private static void refusals() {
        Calls.run("24 to 26, no packing", "codeLength() -> -5, code(0) -> -5, code(-1) -> -5, codeIndex(0) -> -5",
                "codeIndex(-1) -> -5", TWO_BLOCKS, "codeIndex(0) -> 0, codeIndex(1) -> 9, codeIndex(2) -> -1",
                "codeIndex(-1) -> -1, codeIndex(2147483647) -> -1, code(-1) -> -1, code(17) -> -1, code(100) -> -1",
                "code(-2147483648) -> -1, unpack() -> 13, codeLength() -> -5, code(0) -> -5, codeIndex(0) -> -5");
    }
}
