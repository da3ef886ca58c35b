/** Runs that bring a new object into the states in which calls are tried. */
final class States {
    static final String NEW = "";

    static final String EMPTY_PACKED = "pack() -> 0";

    /** Blocks from 0, 4 and 5 on, three templates, and a change that was undone. */
    static final String PROGRAM = "add(7,1,2,2) -> 0, add(0,3,5,0) -> 1, add(1,4,1,3) -> 2, add(11,0,5,4) -> 3, "
            + "add(9,0,3,4) -> 4, add(8,5,3,0) -> 5, add(12,0,0,0) -> 6, set(1,0,3,9,0) -> 0, undo() -> 7, "
            + "addTemplate(0,1,3,4) -> 0, addTemplate(2,1,3,6) -> 1, addTemplate(0,2,3,1) -> 2, "
            + "setRegister(2,3) -> 1, setRegister(7,-1) -> 1, setMemory(0,7) -> 1, setMemory(15,8) -> 1";

    static final String PACKED = PROGRAM + ", pack() -> 5";

    static final String INCOMPLETE = PROGRAM + ", set(3,11,0,7,4) -> 11";

    /** Complete and with templates, none of which takes the stop at the end. */
    static final String IMPOSSIBLE = "add(0,1,5,0) -> 0, add(10,0,2,0) -> 1, add(0,2,6,0) -> 2, add(12,0,0,0) -> 3, "
            + "removeLast() -> 3, undo() -> 4, addTemplate(0,0,0,7) -> 0, addTemplate(1,1,2,0) -> 1, "
            + "setRegister(1,77) -> 1, setMemory(3,78) -> 1";

    /** 40 instructions, 8 templates, and more changes than can be undone. */
    static final String FULL = fullProgram() + "addTemplate(0,0,0,4) -> 0, addTemplate(0,1,3,4) -> 1, "
            + "addTemplate(1,1,1,7) -> 2, addTemplate(2,1,0,1) -> 3, addTemplate(0,3,3,2) -> 4, "
            + "addTemplate(3,3,3,0) -> 5, addTemplate(0,2,3,6) -> 6, addTemplate(1,0,3,5) -> 7";

    static final String FULL_PACKED = FULL + ", pack() -> 14";

    /** 20 multiplications that wait for each other, and three stops: 60 bundles. */
    static final String SIXTY = Calls.times(20, "add(7,1,1,1)") + ", " + Calls.times(3, "add(12,0,0,0)")
            + ", addTemplate(2,1,3,4) -> 0, setRegister(1,3) -> 1";

    static final String SIXTY_PACKED = SIXTY + ", pack() -> 60";

    static final String[] ALL = {NEW, EMPTY_PACKED, PROGRAM, PACKED, INCOMPLETE, IMPOSSIBLE, FULL, FULL_PACKED, SIXTY,
        SIXTY_PACKED};

    private States() {
    }

    /** 38 constants, each for another register than the one before, a branch to the stop behind it, and the stop. */
    private static String fullProgram() {
        StringBuilder calls = new StringBuilder();
        for (int k = 0; k < 38; k++) {
            calls.append("add(0,").append(k % 8).append(",").append(k).append(",0) -> ").append(k).append(", ");
        }
        return calls.append("add(11,0,39,7) -> 38, add(12,0,0,0) -> 39, ").toString();
    }
}
