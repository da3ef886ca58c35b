/**
 * A bundler for a machine with typed slots: it keeps a program and templates, cuts the program into blocks, packs the
 * blocks in order into bundles, and executes programs and packings.
 */
public final class SlotBundler {
    public static final int NO_SUCH_ELEMENT = -1;
    public static final int BAD_VALUE = -2;
    public static final int FULL = -3;
    public static final int NONE = -4;
    public static final int STATE = -5;
    public static final int INCOMPLETE = -6;
    public static final int LIMIT = -7;
    public static final int IMPOSSIBLE = -8;

    private static final int REGISTERS = 8;
    private static final int CELLS = 16;
    private static final int MOST_INSTRUCTIONS = 40;
    private static final int MOST_TEMPLATES = 8;
    private static final int MOST_BUNDLES = 60;
    private static final int MOST_CHANGES = 10;
    private static final int MOST_STEPS = 300;
    private static final int MOST_BLOCKS_RUN = 100;
    private static final int MOST_FOR_LEAST = 4;
    private static final int GREATEST_CONSTANT = 999;
    private static final int LONGEST_LATENCY = 3;

    private static final int SLOTS = 3;
    private static final int TYPES = 4;
    private static final int STOP_SETS = 8;

    private static final int PARTS = 4;
    private static final int OPERATION = 0;
    private static final int D = 1;
    private static final int A = 2;
    private static final int B = 3;

    private static final int CONSTANT = 0;
    private static final int PLUS = 1;
    private static final int MINUS = 2;
    private static final int AND = 3;
    private static final int XOR = 4;
    private static final int SHIFT = 5;
    private static final int LESS = 6;
    private static final int TIMES = 7;
    private static final int LOAD = 8;
    private static final int STORE = 9;
    private static final int JUMP = 10;
    private static final int BRANCH = 11;
    private static final int STOP = 12;

    /** The place at which a run is after a stop: no instruction and no block. */
    private static final int STOPPED = -1;

    private static final int PART_OFFSET = 1000;
    private static final int CODE_OFFSET = 2000;
    private static final int CODE_OF_BUNDLE = 1000;
    private static final int CODE_OF_TEMPLATE = 8;

    private static final int WHAT_BUNDLE = 0;
    private static final int WHAT_SLOT = 1;
    private static final int WHAT_GROUP = 2;
    private static final int WHAT_TEMPLATE = 3;
    private static final int WHAT_BLOCK = 4;
    private static final int WHAT_STOPS = 3;

    private final Program program = new Program();
    private final History history = new History();
    private final Blocks blocks = new Blocks();
    private final Templates templates = new Templates();
    private final Filler filler = new Filler(program, templates);
    private final Packing packing = new Packing(program);
    private final Machine machine = new Machine();
    private final Machine programCopy = new Machine();
    private final Machine packingCopy = new Machine();
    private final BlockRunner blockRunner = new BlockRunner(program, blocks, packing);

    /** Creates a bundler without instructions and templates. */
    public SlotBundler() {
    }

    /** Appends an instruction to the program. */
    public int add(int operation, int d, int a, int b) {
        if (!Program.isInstruction(operation, d, a, b)) {
            return BAD_VALUE;
        }
        if (packing.made) {
            return STATE;
        }
        if (program.count >= MOST_INSTRUCTIONS) {
            return FULL;
        }
        int instruction = program.count;
        history.remember(program, instruction);
        program.write(instruction, operation, d, a, b);
        program.count = instruction + 1;
        blocks.cut(program);
        return instruction;
    }

    /** Replaces an instruction. */
    public int set(int instruction, int operation, int d, int a, int b) {
        if (!program.has(instruction)) {
            return NO_SUCH_ELEMENT;
        }
        if (!Program.isInstruction(operation, d, a, b)) {
            return BAD_VALUE;
        }
        if (packing.made) {
            return STATE;
        }
        int previous = program.operationOf(instruction);
        history.remember(program, instruction);
        program.write(instruction, operation, d, a, b);
        blocks.cut(program);
        return previous;
    }

    /** Removes the last instruction of the program. */
    public int removeLast() {
        if (packing.made) {
            return STATE;
        }
        if (program.count == 0) {
            return NONE;
        }
        int last = program.count - 1;
        history.remember(program, last);
        program.count = last;
        blocks.cut(program);
        return last;
    }

    /** Returns the number of instructions. */
    public int size() {
        return program.count;
    }

    /** Returns a part of an instruction plus 1000. */
    public int part(int instruction, int what) {
        if (!program.has(instruction)) {
            return NO_SUCH_ELEMENT;
        }
        if (what < 0 || what >= PARTS) {
            return BAD_VALUE;
        }
        return program.rows[instruction][what] + PART_OFFSET;
    }

    /** Undoes the latest change that was not undone. */
    public int undo() {
        if (packing.made) {
            return STATE;
        }
        if (history.count == 0) {
            return NONE;
        }
        history.takeBack(program);
        blocks.cut(program);
        return history.count;
    }

    /** Returns the number of blocks. */
    public int blockCount() {
        return blocks.complete ? blocks.count : INCOMPLETE;
    }

    /** Returns the block of an instruction. */
    public int blockOf(int instruction) {
        if (!program.has(instruction)) {
            return NO_SUCH_ELEMENT;
        }
        return blocks.complete ? blocks.ofInstruction[instruction] : INCOMPLETE;
    }

    /** Returns the first instruction of a block. */
    public int blockBegin(int block) {
        if (!blocks.complete) {
            return INCOMPLETE;
        }
        return blocks.has(block) ? blocks.begins[block] : NO_SUCH_ELEMENT;
    }

    /** Returns the distance from an instruction to a later one of the same block. */
    public int distance(int i, int j) {
        if (!program.has(i) || !program.has(j)) {
            return NO_SUCH_ELEMENT;
        }
        if (!blocks.complete) {
            return INCOMPLETE;
        }
        if (j <= i || blocks.ofInstruction[i] != blocks.ofInstruction[j]) {
            return BAD_VALUE;
        }
        return program.gap(i, j);
    }

    /** Adds a template. */
    public int addTemplate(int first, int second, int third, int stops) {
        if (!Templates.isType(first) || !Templates.isType(second) || !Templates.isType(third)) {
            return BAD_VALUE;
        }
        if (stops < 0 || stops >= STOP_SETS) {
            return BAD_VALUE;
        }
        if (packing.made) {
            return STATE;
        }
        if (templates.count >= MOST_TEMPLATES) {
            return FULL;
        }
        templates.append(first, second, third, stops);
        return templates.count - 1;
    }

    /** Removes all templates. */
    public int clearTemplates() {
        if (packing.made) {
            return STATE;
        }
        int previous = templates.count;
        templates.count = 0;
        return previous;
    }

    /** Returns the number of templates. */
    public int templateCount() {
        return templates.count;
    }

    /** Returns a part of a template. */
    public int template(int template, int what) {
        if (template < 0 || template >= templates.count) {
            return NO_SUCH_ELEMENT;
        }
        if (what < 0 || what > WHAT_STOPS) {
            return BAD_VALUE;
        }
        return what == WHAT_STOPS ? templates.stops[template] : templates.types[template][what];
    }

    /** Packs the program; an earlier packing is replaced. */
    public int pack() {
        if (!blocks.complete) {
            return INCOMPLETE;
        }
        packing.clear();
        for (int block = 0; block < blocks.count; block++) {
            filler.enter(blocks.begins[block], blocks.begins[block + 1]);
            if (templates.count == 0 || !packing.takeBlock(block, filler)) {
                return IMPOSSIBLE;
            }
        }
        packing.writeCode();
        packing.made = true;
        return packing.count;
    }

    /** Removes the packing. */
    public int unpack() {
        if (!packing.made) {
            return STATE;
        }
        packing.made = false;
        return packing.count;
    }

    /** Returns the number of bundles of the packing. */
    public int bundleCount() {
        return packing.made ? packing.count : STATE;
    }

    /** Returns a part of a bundle. */
    public int bundle(int bundle, int what) {
        if (!packing.made) {
            return STATE;
        }
        if (bundle < 0 || bundle >= packing.count) {
            return NO_SUCH_ELEMENT;
        }
        if (what < 0 || what > WHAT_BLOCK) {
            return BAD_VALUE;
        }
        if (what == WHAT_TEMPLATE) {
            return packing.templateOf[bundle];
        }
        return what == WHAT_BLOCK ? packing.blockOfBundle[bundle] : packing.slots[bundle][what];
    }

    /** Returns where an instruction was packed. */
    public int placeOf(int instruction, int what) {
        if (!packing.made) {
            return STATE;
        }
        if (!program.has(instruction)) {
            return NO_SUCH_ELEMENT;
        }
        switch (what) {
            case WHAT_BUNDLE:
                return packing.bundleOf[instruction];
            case WHAT_SLOT:
                return packing.slotOf[instruction];
            case WHAT_GROUP:
                return packing.groupOf[instruction];
            default:
                return BAD_VALUE;
        }
    }

    /** Returns the cycles of a packed block. */
    public int cycles(int block) {
        if (!packing.made) {
            return STATE;
        }
        return blocks.has(block) ? packing.cyclesOf[block] : NO_SUCH_ELEMENT;
    }

    /** Returns the number of empty slots of all bundles. */
    public int emptySlots() {
        return packing.made ? packing.count * SLOTS - program.count : STATE;
    }

    /** Returns the least number of bundles into which a block can be packed with freely chosen templates. */
    public int least(int block, int most) {
        if (!blocks.complete) {
            return INCOMPLETE;
        }
        if (!blocks.has(block)) {
            return NO_SUCH_ELEMENT;
        }
        if (most < 0 || most > MOST_FOR_LEAST) {
            return BAD_VALUE;
        }
        int begin = blocks.begins[block];
        filler.enter(begin, blocks.begins[block + 1]);
        for (int bundles = 1; bundles <= most; bundles++) {
            if (packsInto(filler, bundles, begin, 0)) {
                return bundles;
            }
        }
        return NONE;
    }

    /** Returns the length of the code of the packing. */
    public int codeLength() {
        return packing.made ? packing.codeLength : STATE;
    }

    /** Returns a number of the code of the packing plus 2000. */
    public int code(int index) {
        if (!packing.made) {
            return STATE;
        }
        if (index < 0 || index >= packing.codeLength) {
            return NO_SUCH_ELEMENT;
        }
        return packing.code[index] + CODE_OFFSET;
    }

    /** Returns the index at which the code of a block begins. */
    public int codeIndex(int block) {
        if (!packing.made) {
            return STATE;
        }
        return blocks.has(block) ? packing.codeIndexOf[block] : NO_SUCH_ELEMENT;
    }

    /** Sets a register. */
    public int setRegister(int register, int value) {
        if (register < 0 || register >= REGISTERS) {
            return NO_SUCH_ELEMENT;
        }
        machine.registers[register] = value;
        return 1;
    }

    /** Returns the value of a register. */
    public long register(int register) {
        if (register < 0 || register >= REGISTERS) {
            return Long.MIN_VALUE;
        }
        return machine.registers[register];
    }

    /** Sets a memory cell. */
    public int setMemory(int cell, int value) {
        if (cell < 0 || cell >= CELLS) {
            return NO_SUCH_ELEMENT;
        }
        machine.cells[cell] = value;
        return 1;
    }

    /** Returns the value of a memory cell. */
    public long memory(int cell) {
        if (cell < 0 || cell >= CELLS) {
            return Long.MIN_VALUE;
        }
        return machine.cells[cell];
    }

    /** Executes the program, one instruction after the other. */
    public int run(int steps) {
        if (steps < 0 || steps > MOST_STEPS) {
            return BAD_VALUE;
        }
        return blocks.complete ? executeProgram(machine, steps) : INCOMPLETE;
    }

    /** Executes the packing, one block after the other. */
    public int runBundles(int blocks) {
        if (blocks < 0 || blocks > MOST_BLOCKS_RUN) {
            return BAD_VALUE;
        }
        return packing.made ? executePacking(machine, blocks) : STATE;
    }

    /** Executes the program and the packing on copies of registers and memory and compares what they leave. */
    public int compare(int steps) {
        if (steps < 0 || steps > MOST_STEPS) {
            return BAD_VALUE;
        }
        if (!packing.made) {
            return STATE;
        }
        programCopy.copyFrom(machine);
        if (executeProgram(programCopy, steps) == LIMIT) {
            return LIMIT;
        }
        packingCopy.copyFrom(machine);
        // Each block takes at least one step of the program, so that the packing never needs more blocks than these.
        boolean stops = executePacking(packingCopy, MOST_STEPS) != LIMIT;
        return stops && packingCopy.holdsTheSameAs(programCopy) ? 1 : 0;
    }

    /** Returns the number of steps until the program stops, or LIMIT. */
    private int executeProgram(Machine target, int steps) {
        int instruction = 0;
        int taken = 0;
        while (taken < steps && program.has(instruction)) {
            instruction = target.step(program.rows[instruction], instruction);
            taken++;
        }
        return program.has(instruction) ? LIMIT : taken;
    }

    /** Returns the sum of the cycles until the packing stops, or LIMIT. */
    private int executePacking(Machine target, int most) {
        int block = 0;
        int sum = 0;
        for (int executed = 0; executed < most && blocks.has(block); executed++) {
            sum += packing.cyclesOf[block];
            block = blockRunner.execute(target, block);
        }
        return blocks.has(block) ? LIMIT : sum;
    }

    /** Tells whether the rest of the filler's block goes into that many bundles; so many levels are left, at most 4. */
    private static boolean packsInto(Filler filler, int bundles, int from, int group) {
        int left = filler.end - from;
        if (left <= 0) {
            return true;
        }
        if (left > bundles * SLOTS) {
            return false;
        }
        for (int template = 0; template < filler.templates.count; template++) {
            filler.fill(template, from, group);
            if (packsInto(filler, bundles - 1, filler.next, filler.group)) {
                return true;
            }
        }
        return false;
    }

    /** The instructions, each a row of its operation and the numbers d, a and b. */
    private static final class Program {
        private final int[][] rows = new int[MOST_INSTRUCTIONS][PARTS];
        private int count;

        static boolean isInstruction(int operation, int d, int a, int b) {
            switch (operation) {
                case CONSTANT:
                    return isRegister(d) && a >= -GREATEST_CONSTANT && a <= GREATEST_CONSTANT && b == 0;
                case LOAD:
                    return isRegister(d) && isRegister(a) && b == 0;
                case STORE:
                    return d == 0 && isRegister(a) && isRegister(b);
                case JUMP:
                    return d == 0 && isTarget(a) && b == 0;
                case BRANCH:
                    return d == 0 && isTarget(a) && isRegister(b);
                case STOP:
                    return d == 0 && a == 0 && b == 0;
                default:
                    return isCalculation(operation) && isRegister(d) && isRegister(a) && isRegister(b);
            }
        }

        static boolean isRegister(int number) {
            return number >= 0 && number < REGISTERS;
        }

        static boolean isTarget(int number) {
            return number >= 0 && number < MOST_INSTRUCTIONS;
        }

        static boolean isCalculation(int operation) {
            return operation >= PLUS && operation <= TIMES;
        }

        boolean has(int instruction) {
            return instruction >= 0 && instruction < count;
        }

        void write(int instruction, int operation, int d, int a, int b) {
            int[] row = rows[instruction];
            row[OPERATION] = operation;
            row[D] = d;
            row[A] = a;
            row[B] = b;
        }

        int operationOf(int instruction) {
            return rows[instruction][OPERATION];
        }

        boolean isExit(int instruction) {
            return operationOf(instruction) >= JUMP;
        }

        boolean hasTarget(int instruction) {
            int operation = operationOf(instruction);
            return operation == JUMP || operation == BRANCH;
        }

        int targetOf(int instruction) {
            return rows[instruction][A];
        }

        int latency(int instruction) {
            switch (rows[instruction][OPERATION]) {
                case TIMES:
                    return LONGEST_LATENCY;
                case LOAD:
                    return 2;
                default:
                    return 1;
            }
        }

        /** The bit of the register that an instruction writes, 0 if there is none. */
        int written(int instruction) {
            int[] row = rows[instruction];
            return row[OPERATION] <= LOAD ? 1 << row[D] : 0;
        }

        /** The bits of the registers that an instruction reads. */
        int read(int instruction) {
            int[] row = rows[instruction];
            switch (row[OPERATION]) {
                case CONSTANT:
                case JUMP:
                case STOP:
                    return 0;
                case LOAD:
                    return 1 << row[A];
                case BRANCH:
                    return 1 << row[B];
                default:
                    return 1 << row[A] | 1 << row[B];
            }
        }

        /** The distance from an instruction to a later one of its block, or NONE, which is below all distances. */
        int gap(int i, int j) {
            int first = rows[i][OPERATION];
            int second = rows[j][OPERATION];
            int greatest = NONE;
            if ((written(i) & read(j)) != 0) {
                greatest = latency(i);
            }
            if ((written(i) & written(j)) != 0) {
                greatest = Math.max(greatest, Math.max(1, latency(i) - latency(j) + 1));
            }
            if (first == STORE && (second == STORE || second == LOAD)) {
                greatest = Math.max(greatest, 1);
            }
            if ((read(i) & written(j)) != 0 || first == LOAD && second == STORE || second >= JUMP) {
                greatest = Math.max(greatest, 0);
            }
            return greatest;
        }
    }

    /** What the latest changes have changed: the size before each and the one row that it touched. */
    private static final class History {
        private final int[] sizes = new int[MOST_CHANGES];
        private final int[] instructions = new int[MOST_CHANGES];
        private final int[][] rows = new int[MOST_CHANGES][PARTS];
        private int next;
        private int count;

        /** Called before a change that touches the row of this instruction. */
        void remember(Program program, int instruction) {
            sizes[next] = program.count;
            instructions[next] = instruction;
            System.arraycopy(program.rows[instruction], 0, rows[next], 0, PARTS);
            next = (next + 1) % MOST_CHANGES;
            count = Math.min(count + 1, MOST_CHANGES);
        }

        /** Called only if there is a change. */
        void takeBack(Program program) {
            next = (next + MOST_CHANGES - 1) % MOST_CHANGES;
            count--;
            System.arraycopy(rows[next], 0, program.rows[instructions[next]], 0, PARTS);
            program.count = sizes[next];
        }
    }

    /** How the program is cut; an incomplete program has no blocks. */
    private static final class Blocks {
        /** The first instruction of each block, and behind them the size of the program. */
        private final int[] begins = new int[MOST_INSTRUCTIONS + 1];
        private final int[] ofInstruction = new int[MOST_INSTRUCTIONS];
        private final boolean[] isBegin = new boolean[MOST_INSTRUCTIONS];
        private int count;
        private boolean complete = true;

        boolean has(int block) {
            return block >= 0 && block < count;
        }

        void cut(Program program) {
            count = 0;
            complete = hasAllTargets(program);
            if (complete) {
                markBegins(program);
                numberBlocks(program.count);
            }
        }

        private static boolean hasAllTargets(Program program) {
            for (int k = 0; k < program.count; k++) {
                if (program.hasTarget(k) && !program.has(program.targetOf(k))) {
                    return false;
                }
            }
            return true;
        }

        private void markBegins(Program program) {
            for (int k = 0; k < program.count; k++) {
                isBegin[k] = k == 0 || program.isExit(k - 1);
            }
            for (int k = 0; k < program.count; k++) {
                if (program.hasTarget(k)) {
                    isBegin[program.targetOf(k)] = true;
                }
            }
        }

        private void numberBlocks(int size) {
            for (int k = 0; k < size; k++) {
                if (isBegin[k]) {
                    begins[count] = k;
                    count++;
                }
                ofInstruction[k] = count - 1;
            }
            begins[count] = size;
        }
    }

    /** The templates, each with the types of its slots and its stop marks. */
    private static final class Templates {
        private final int[][] types = new int[MOST_TEMPLATES][SLOTS];
        private final int[] stops = new int[MOST_TEMPLATES];
        private int count;

        static boolean isType(int number) {
            return number >= 0 && number < TYPES;
        }

        static boolean fits(int operation, int type) {
            switch (type) {
                case 0:
                    return operation <= LESS || operation == LOAD || operation == STORE;
                case 1:
                    return operation <= LESS;
                case 2:
                    return operation == TIMES;
                default:
                    return operation >= JUMP;
            }
        }

        void append(int first, int second, int third, int stopMarks) {
            types[count][0] = first;
            types[count][1] = second;
            types[count][2] = third;
            stops[count] = stopMarks;
            count++;
        }

        int stopCount(int template) {
            return Integer.bitCount(stops[template]);
        }

        boolean stopsBehind(int template, int slot) {
            return (stops[template] >> slot & 1) != 0;
        }
    }

    /** Fills single bundles of one block; what the last filling did can be read from next, group and slots. */
    private static final class Filler {
        private final Program program;
        private final Templates templates;
        private final int[] groups = new int[MOST_INSTRUCTIONS];
        private final int[] slots = new int[SLOTS];
        private int begin;
        private int end;
        private int next;
        private int group;

        Filler(Program program, Templates templates) {
            this.program = program;
            this.templates = templates;
        }

        void enter(int first, int behindLast) {
            begin = first;
            end = behindLast;
        }

        /** Fills a bundle; the instructions of the block before from must have their groups. */
        void fill(int template, int from, int fromGroup) {
            next = from;
            group = fromGroup;
            for (int slot = 0; slot < SLOTS; slot++) {
                slots[slot] = NONE;
                if (next < end && Templates.fits(program.operationOf(next), templates.types[template][slot])
                        && isReady()) {
                    slots[slot] = next;
                    groups[next] = group;
                    next++;
                }
                if (templates.stopsBehind(template, slot)) {
                    group++;
                }
            }
        }

        /** Groups never decrease, so that the search can end where no distance reaches the present group any more. */
        private boolean isReady() {
            for (int i = next - 1; i >= begin && groups[i] + LONGEST_LATENCY > group; i--) {
                int gap = program.gap(i, next);
                if (gap != NONE && groups[i] + gap > group) {
                    return false;
                }
            }
            return true;
        }

        /** The template for the next bundle; there must be templates. */
        int chosenTemplate(int from, int fromGroup) {
            int best = 0;
            int mostPut = -1;
            for (int template = 0; template < templates.count; template++) {
                fill(template, from, fromGroup);
                int put = next - from;
                if (put > mostPut || put == mostPut && isPreferred(template, best, put)) {
                    best = template;
                    mostPut = put;
                }
            }
            return best;
        }

        private boolean isPreferred(int template, int best, int put) {
            int more = templates.stopCount(template) - templates.stopCount(best);
            return put > 0 ? more < 0 : more > 0;
        }
    }

    /** The bundles, where each instruction is, and the code. */
    private static final class Packing {
        private final Program program;
        private final int[][] slots = new int[MOST_BUNDLES][SLOTS];
        private final int[] templateOf = new int[MOST_BUNDLES];
        private final int[] blockOfBundle = new int[MOST_BUNDLES];
        private final int[] bundleOf = new int[MOST_INSTRUCTIONS];
        private final int[] slotOf = new int[MOST_INSTRUCTIONS];
        private final int[] groupOf = new int[MOST_INSTRUCTIONS];
        private final int[] cyclesOf = new int[MOST_INSTRUCTIONS];
        private final int[] codeIndexOf = new int[MOST_INSTRUCTIONS];
        /** Long enough: a bundle writes at most one number of its own, and each instruction one. */
        private final int[] code = new int[MOST_BUNDLES + MOST_INSTRUCTIONS];
        private int codeLength;
        private int count;
        private boolean made;

        Packing(Program program) {
            this.program = program;
        }

        void clear() {
            made = false;
            count = 0;
        }

        /** Packs the block that the filler has entered; answers false if that is impossible. */
        boolean takeBlock(int block, Filler filler) {
            int next = filler.begin;
            int group = 0;
            cyclesOf[block] = 0;
            for (int room = MOST_BUNDLES - count; room > 0 && next < filler.end; room--) {
                int template = filler.chosenTemplate(next, group);
                filler.fill(template, next, group);
                if (filler.next == next && filler.group == group) {
                    return false;
                }
                takeBundle(block, template, filler);
                next = filler.next;
                group = filler.group;
            }
            return next >= filler.end;
        }

        private void takeBundle(int block, int template, Filler filler) {
            templateOf[count] = template;
            blockOfBundle[count] = block;
            for (int slot = 0; slot < SLOTS; slot++) {
                int instruction = filler.slots[slot];
                slots[count][slot] = instruction;
                if (instruction != NONE) {
                    bundleOf[instruction] = count;
                    slotOf[instruction] = slot;
                    groupOf[instruction] = filler.groups[instruction];
                    cyclesOf[block] = Math.max(cyclesOf[block], due(instruction));
                }
            }
            count++;
        }

        /** The group at whose beginning the result of an instruction is there. */
        int due(int instruction) {
            return groupOf[instruction] + program.latency(instruction);
        }

        void writeCode() {
            codeLength = 0;
            for (int bundle = 0; bundle < count; bundle++) {
                boolean beginsBlock = bundle == 0 || blockOfBundle[bundle] != blockOfBundle[bundle - 1];
                if (beginsBlock) {
                    codeIndexOf[blockOfBundle[bundle]] = codeLength;
                }
                if (filledSlots(bundle) != 0) {
                    writeBundle(bundle);
                } else if (!beginsBlock && filledSlots(bundle - 1) == 0) {
                    code[codeLength - 1]--;
                } else {
                    writeNumber(-1);
                }
            }
        }

        private void writeBundle(int bundle) {
            writeNumber(CODE_OF_BUNDLE + CODE_OF_TEMPLATE * templateOf[bundle] + filledSlots(bundle));
            for (int slot = 0; slot < SLOTS; slot++) {
                if (slots[bundle][slot] != NONE) {
                    writeNumber(slots[bundle][slot]);
                }
            }
        }

        private void writeNumber(int number) {
            code[codeLength] = number;
            codeLength++;
        }

        /** Bit s for a slot s that is not empty. */
        private int filledSlots(int bundle) {
            int bits = 0;
            for (int slot = 0; slot < SLOTS; slot++) {
                if (slots[bundle][slot] != NONE) {
                    bits |= 1 << slot;
                }
            }
            return bits;
        }
    }

    /** Registers and memory, and what instructions do with them. */
    private static final class Machine {
        private final int[] registers = new int[REGISTERS];
        private final int[] cells = new int[CELLS];

        void copyFrom(Machine other) {
            System.arraycopy(other.registers, 0, registers, 0, REGISTERS);
            System.arraycopy(other.cells, 0, cells, 0, CELLS);
        }

        boolean holdsTheSameAs(Machine other) {
            for (int k = 0; k < REGISTERS; k++) {
                if (registers[k] != other.registers[k]) {
                    return false;
                }
            }
            for (int k = 0; k < CELLS; k++) {
                if (cells[k] != other.cells[k]) {
                    return false;
                }
            }
            return true;
        }

        /** Executes one instruction and returns the next one, or STOPPED. */
        int step(int[] row, int instruction) {
            int next = successor(row, instruction);
            take(row, cellOf(row), resultOf(row));
            return next;
        }

        int successor(int[] row, int instruction) {
            switch (row[OPERATION]) {
                case JUMP:
                    return row[A];
                case BRANCH:
                    return registers[row[B]] != 0 ? row[A] : instruction + 1;
                case STOP:
                    return STOPPED;
                default:
                    return instruction + 1;
            }
        }

        /** The cell that a load or store addresses; the numbers of other instructions may be no registers. */
        int cellOf(int[] row) {
            boolean addresses = row[OPERATION] == LOAD || row[OPERATION] == STORE;
            return addresses ? registers[row[A]] & CELLS - 1 : 0;
        }

        int resultOf(int[] row) {
            switch (row[OPERATION]) {
                case CONSTANT:
                    return row[A];
                case LOAD:
                    return cells[cellOf(row)];
                case STORE:
                    return registers[row[B]];
                case JUMP:
                case BRANCH:
                case STOP:
                    return 0;
                default:
                    return calculated(row[OPERATION], registers[row[A]], registers[row[B]]);
            }
        }

        private static int calculated(int operation, int a, int b) {
            switch (operation) {
                case PLUS:
                    return a + b;
                case MINUS:
                    return a - b;
                case AND:
                    return a & b;
                case XOR:
                    return a ^ b;
                case SHIFT:
                    return a >> (b & 31);
                case LESS:
                    return a < b ? 1 : 0;
                default:
                    return a * b;
            }
        }

        /** Puts the result of an instruction where it belongs. */
        void take(int[] row, int cell, int result) {
            if (row[OPERATION] <= LOAD) {
                registers[row[D]] = result;
            } else if (row[OPERATION] == STORE) {
                cells[cell] = result;
            }
        }
    }

    /** Executes packed blocks group by group, with results that come late. */
    private static final class BlockRunner {
        private final Program program;
        private final Blocks blocks;
        private final Packing packing;
        private final int[] results = new int[MOST_INSTRUCTIONS];
        private final int[] cells = new int[MOST_INSTRUCTIONS];

        BlockRunner(Program program, Blocks blocks, Packing packing) {
            this.program = program;
            this.blocks = blocks;
            this.packing = packing;
        }

        /** Executes a block and returns the next one; STOPPED or the number of blocks if the packing stops. */
        int execute(Machine machine, int block) {
            int begin = blocks.begins[block];
            int end = blocks.begins[block + 1];
            int next = begin;
            int successor = end;
            for (int group = 0; group <= packing.cyclesOf[block]; group++) {
                deliver(machine, begin, next, group);
                while (next < end && packing.groupOf[next] == group) {
                    results[next] = machine.resultOf(program.rows[next]);
                    cells[next] = machine.cellOf(program.rows[next]);
                    successor = machine.successor(program.rows[next], next);
                    next++;
                }
            }
            return blockAt(successor);
        }

        /** Groups never decrease, so that older results than those of the longest latency have come already. */
        private void deliver(Machine machine, int begin, int next, int group) {
            for (int k = next - 1; k >= begin && packing.groupOf[k] + LONGEST_LATENCY >= group; k--) {
                if (packing.due(k) == group) {
                    machine.take(program.rows[k], cells[k], results[k]);
                }
            }
        }

        private int blockAt(int instruction) {
            if (instruction == STOPPED) {
                return STOPPED;
            }
            return program.has(instruction) ? blocks.ofInstruction[instruction] : blocks.count;
        }
    }
}
