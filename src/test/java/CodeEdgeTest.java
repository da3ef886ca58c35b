/** The boundary cases of promises 24 to 26 and of "Code", a sentence each. */
public final class CodeEdgeTest {
    private static final String[] UNPACKED = {States.NEW, States.PROGRAM, States.INCOMPLETE, States.IMPOSSIBLE,
        States.FULL, States.SIXTY};
    /** Each block has the latencies of two multiplications, so that it has sequences of empty bundles. */
    private static final String WAITING_BLOCKS = "add(7,1,2,2), add(7,1,1,1), add(1,3,1,1), add(12,0,0,0), "
            + "add(7,1,2,2), add(8,1,1,0), add(12,0,0,0), addTemplate(0,2,3,4) -> 0, pack() -> 11";

    public static void main(String[] args) {
        filledSlots();
        templates();
        sequences();
        sequencesEndWithTheirBlock();
        codeLength();
        indexes();
        blocks();
        Calls.end("CodeEdgeTest");
    }

    private static void filledSlots() {
        for (int filled = 1; filled <= 7; filled++) {
            StringBuilder calls = new StringBuilder();
            StringBuilder codes = new StringBuilder();
            int count = 0;
            for (int slot = 0; slot < 3; slot++) {
                if ((filled >> slot & 1) != 0) {
                    codes.append("code(").append(count + 1).append(") -> ").append(2000 + count).append(", ");
                    calls.append("add(0,").append(count++).append(",1,0), ");
                }
            }
            Calls.run("Code: the sum of 2 to the power s for all slots s that are not empty", calls.toString(),
                    "addTemplate(" + type(filled, 0) + "," + type(filled, 1) + "," + type(filled, 2) + ",0)",
                    "pack() -> 1",
                    "code(0) -> " + (3000 + filled) + ", codeLength() -> " + (count + 1), codes.toString());
        }
    }

    private static int type(int filled, int slot) {
        return (filled >> slot & 1) != 0 ? 1 : 3;
    }

    private static void templates() {
        for (int template = 0; template <= 7; template++) {
            Calls.run("Code: 8 times its template plus 1000", "add(0,1,1,0)",
                    Calls.times(template, "addTemplate(2,2,2,7)"), "addTemplate(1,3,3,7) -> " + template,
                    "pack() -> 1, code(0) -> " + (3001 + 8 * template) + ", code(1) -> 2000, codeLength() -> 2");
        }
        Calls.run("Code: the greatest instruction and template", States.FULL_PACKED, "code(53) -> 2039",
                "code(52) -> 3041, code(54) -> -1");
        Calls.run("Code: the greatest number of a bundle", "add(0,0,1,0), add(0,1,1,0), add(0,2,1,0)",
                Calls.times(7, "addTemplate(2,2,2,7)"), "addTemplate(1,1,1,7) -> 7, pack() -> 1, code(0) -> 3063");
    }

    private static void sequences() {
        String title = "Code: for each longest sequence the negative number of these bundles";
        Calls.run(title, "add(0,1,2,0), add(1,3,1,1), addTemplate(1,3,3,4), pack() -> 2, codeLength() -> 4",
                "code(0) -> 3001, code(1) -> 2000, code(2) -> 3001, code(3) -> 2001");
        Calls.run(title, "add(8,1,2,0), add(1,3,1,1), addTemplate(0,3,3,4), pack() -> 3, codeLength() -> 5",
                "code(0) -> 3001, code(1) -> 2000, code(2) -> 1999, code(3) -> 3001, code(4) -> 2001");
        Calls.run(title, "add(7,1,2,2), add(1,3,1,1), addTemplate(2,1,3,4), pack() -> 4, codeLength() -> 5",
                "code(0) -> 3001, code(1) -> 2000, code(2) -> 1998, code(3) -> 3002, code(4) -> 2001");
        Calls.run(title, "add(7,1,2,2), add(1,3,1,1), addTemplate(1,3,2,1), pack() -> 5, codeLength() -> 5",
                "code(0) -> 3004, code(1) -> 2000, code(2) -> 1997, code(3) -> 3001, code(4) -> 2001, code(5) -> -1");
        Calls.run("Code: sequences with another bundle between them", "add(7,1,2,2), add(7,1,1,1), add(1,3,1,1)",
                "addTemplate(2,1,1,4), pack() -> 7, codeLength() -> 8, code(2) -> 1998, code(3) -> 3001",
                "code(4) -> 2001, code(5) -> 1998, code(6) -> 3002, code(7) -> 2002");
        Calls.run("Code: empty bundles of several templates are one sequence", "add(7,1,2,2), add(1,3,1,1)",
                "addTemplate(2,3,3,0), addTemplate(3,3,3,1), addTemplate(1,3,3,0), pack() -> 5, bundle(1,3) -> 1",
                "bundle(3,3) -> 1, codeLength() -> 5, code(2) -> 1997, code(3) -> 3017");
    }

    private static void sequencesEndWithTheirBlock() {
        String title = "Code: empty bundles of the same block";
        Calls.run(title, WAITING_BLOCKS, "codeLength() -> 15, code(0) -> 3002, code(2) -> 1998, code(3) -> 3002",
                "code(5) -> 1998, code(6) -> 3005, code(7) -> 2002, code(8) -> 2003, code(9) -> 3002, code(10) -> 2004",
                "code(11) -> 1998, code(12) -> 3005, code(13) -> 2005, code(14) -> 2006, code(15) -> -1");
    }

    private static void codeLength() {
        for (String state : UNPACKED) {
            Twins.refuse("24, STATE if there is no packing", state, "codeLength() -> -5");
        }
        Twins.look("24, the number of numbers of the code", States.EMPTY_PACKED, "codeLength() -> 0");
        Twins.look("24, the number of numbers of the code", States.PACKED, "codeLength() -> 12");
        Twins.look("24, the number of numbers of the code", States.FULL_PACKED, "codeLength() -> 54");
        Twins.look("24, the number of numbers of the code", States.SIXTY_PACKED, "codeLength() -> 64");
        Calls.run("24, as many bundles as instructions", Calls.times(40, "add(12,0,0,0)"), "addTemplate(3,3,3,7)",
                "pack() -> 40, codeLength() -> 80, code(79) -> 2039, code(80) -> -1, codeIndex(39) -> 78");
    }

    private static void indexes() {
        for (String state : UNPACKED) {
            Twins.refuse("25, STATE is checked first", state, "code(0) -> -5, code(-1) -> -5, code(1000) -> -5");
        }
        Twins.refuse("25, NO_SUCH_ELEMENT", States.EMPTY_PACKED, "code(0) -> -1, code(-1) -> -1",
                "code(2147483647) -> -1");
        Twins.refuse("25, NO_SUCH_ELEMENT", States.PACKED, "code(-1) -> -1, code(12) -> -1, code(13) -> -1",
                "code(100) -> -1, code(-2147483648) -> -1, code(2147483647) -> -1");
        Twins.refuse("25, NO_SUCH_ELEMENT", States.FULL_PACKED, "code(54) -> -1, code(99) -> -1, code(100) -> -1");
        Twins.refuse("25, NO_SUCH_ELEMENT", States.SIXTY_PACKED, "code(64) -> -1");
        Twins.look("25, a number of the code plus 2000", States.PACKED, "code(0) -> 3011, code(1) -> 2000",
                "code(2) -> 2001, code(3) -> 1999, code(4) -> 3021, code(5) -> 2002, code(6) -> 2003, code(7) -> 3001",
                "code(8) -> 2004, code(9) -> 3005, code(10) -> 2005, code(11) -> 2006");
        Calls.run("25, no number of an earlier packing", States.PACKED, "unpack(), clearTemplates(), undo(), undo()",
                "undo(), undo(), undo(), undo(), size() -> 1, addTemplate(2,2,2,0), pack() -> 1, codeLength() -> 2",
                "code(0) -> 3001, code(1) -> 2000, code(2) -> -1");
    }

    private static void blocks() {
        for (String state : UNPACKED) {
            Twins.refuse("26, STATE is checked first", state, "codeIndex(0) -> -5, codeIndex(-1) -> -5",
                    "codeIndex(40) -> -5");
        }
        Twins.refuse("26, NO_SUCH_ELEMENT", States.EMPTY_PACKED, "codeIndex(0) -> -1, codeIndex(-1) -> -1");
        Twins.refuse("26, NO_SUCH_ELEMENT", States.PACKED, "codeIndex(-1) -> -1, codeIndex(3) -> -1",
                "codeIndex(39) -> -1",
                "codeIndex(40) -> -1, codeIndex(-2147483648) -> -1, codeIndex(2147483647) -> -1");
        Twins.look("26, the index at which the code of a block begins", States.PACKED, "codeIndex(0) -> 0",
                "codeIndex(1) -> 7, codeIndex(2) -> 9");
        Twins.look("26, the index at which the code of a block begins", States.SIXTY_PACKED, "codeIndex(0) -> 0",
                "codeIndex(1) -> 60, codeIndex(2) -> 62, codeIndex(3) -> -1");
        Calls.run("26, behind sequences of empty bundles", WAITING_BLOCKS, "codeIndex(0) -> 0, codeIndex(1) -> 9",
                "codeIndex(2) -> -1");
    }
}
