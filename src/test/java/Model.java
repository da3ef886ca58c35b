import java.util.ArrayDeque;
import java.util.ArrayList;
import java.util.Arrays;
import java.util.Collections;
import java.util.Deque;
import java.util.List;
import java.util.TreeMap;
import java.util.TreeSet;

/**
 * A second bundler, written from the document's words for comparison: it keeps whole copies instead of differences,
 * works everything out anew in each call and looks at all pairs of instructions.
 */
final class Model {
    private static final long NO_VALUE = Long.MIN_VALUE;

    private List<int[]> program = new ArrayList<>();
    private final Deque<List<int[]>> history = new ArrayDeque<>();
    private final List<int[]> templates = new ArrayList<>();
    private List<Bundle> packing = null;
    private int[] groups = new int[0];
    private int[] registers = new int[8];
    private int[] cells = new int[16];

    /** A filled bundle and where the block stands behind it. */
    private static final class Bundle {
        int template;
        int block;
        final int[] slots = {-4, -4, -4};
        int[] groups;
        int next;
        int group;
        int put;
    }

    /** Registers and memory of one execution, and how it ended. */
    private static final class Execution {
        int[] registers;
        int[] cells;
        int result;
    }

    int add(int operation, int d, int a, int b) {
        if (!valid(operation, d, a, b)) return -2;
        if (packing != null) return -5;
        if (program.size() == 40) return -3;
        keep();
        program.add(new int[] {operation, d, a, b});
        return program.size() - 1;
    }

    int set(int instruction, int operation, int d, int a, int b) {
        if (!inside(instruction, program.size())) return -1;
        if (!valid(operation, d, a, b)) return -2;
        if (packing != null) return -5;
        keep();
        return program.set(instruction, new int[] {operation, d, a, b})[0];
    }

    int removeLast() {
        if (packing != null) return -5;
        if (program.isEmpty()) return -4;
        keep();
        program.remove(program.size() - 1);
        return program.size();
    }

    int size() {
        return program.size();
    }

    int part(int instruction, int what) {
        if (!inside(instruction, program.size())) return -1;
        if (!inside(what, 4)) return -2;
        return program.get(instruction)[what] + 1000;
    }

    int undo() {
        if (packing != null) return -5;
        if (history.isEmpty()) return -4;
        program = history.removeLast();
        return history.size();
    }

    int blockCount() {
        return complete() ? begins().size() : -6;
    }

    int blockOf(int instruction) {
        if (!inside(instruction, program.size())) return -1;
        return complete() ? block(instruction) : -6;
    }

    int blockBegin(int block) {
        if (!complete()) return -6;
        return inside(block, begins().size()) ? begins().get(block) : -1;
    }

    int distance(int i, int j) {
        if (!inside(i, program.size()) || !inside(j, program.size())) return -1;
        if (!complete()) return -6;
        if (j <= i || block(i) != block(j)) return -2;
        List<Integer> all = distances(i, j);
        return all.isEmpty() ? -4 : Collections.max(all);
    }

    int addTemplate(int first, int second, int third, int stops) {
        if (!inside(first, 4) || !inside(second, 4) || !inside(third, 4) || !inside(stops, 8)) return -2;
        if (packing != null) return -5;
        if (templates.size() == 8) return -3;
        templates.add(new int[] {first, second, third, stops});
        return templates.size() - 1;
    }

    int clearTemplates() {
        if (packing != null) return -5;
        int previous = templates.size();
        templates.clear();
        return previous;
    }

    int templateCount() {
        return templates.size();
    }

    int template(int template, int what) {
        if (!inside(template, templates.size())) return -1;
        return inside(what, 4) ? templates.get(template)[what] : -2;
    }

    int pack() {
        if (!complete()) return -6;
        packing = null;
        List<Bundle> bundles = new ArrayList<>();
        groups = new int[program.size()];
        for (int block = 0; block < begins().size(); block++) {
            Bundle last = new Bundle();
            last.next = begins().get(block);
            while (last.next < end(block)) {
                Bundle best = null;
                for (int template = 0; template < templates.size(); template++) {
                    Bundle tried = filled(template, block, last.next, last.group, groups);
                    if (best == null || better(tried, best)) best = tried;
                }
                if (best == null || best.put == 0 && stopMarks(best.template) == 0) return -8;
                bundles.add(best);
                if (bundles.size() > 60) return -8;
                groups = best.groups;
                last = best;
            }
        }
        packing = bundles;
        return bundles.size();
    }

    int unpack() {
        if (packing == null) return -5;
        int count = packing.size();
        packing = null;
        return count;
    }

    int bundleCount() {
        return packing == null ? -5 : packing.size();
    }

    int bundle(int bundle, int what) {
        if (packing == null) return -5;
        if (!inside(bundle, packing.size())) return -1;
        if (!inside(what, 5)) return -2;
        Bundle one = packing.get(bundle);
        return what == 3 ? one.template : what == 4 ? one.block : one.slots[what];
    }

    int placeOf(int instruction, int what) {
        if (packing == null) return -5;
        if (!inside(instruction, program.size())) return -1;
        if (!inside(what, 3)) return -2;
        for (int bundle = 0; bundle < packing.size(); bundle++) {
            for (int slot = 0; slot < 3; slot++) {
                if (packing.get(bundle).slots[slot] == instruction) {
                    return new int[] {bundle, slot, groups[instruction]}[what];
                }
            }
        }
        throw new IllegalStateException("instruction " + instruction + " is in no bundle");
    }

    int cycles(int block) {
        if (packing == null) return -5;
        if (!inside(block, begins().size())) return -1;
        int most = 0;
        for (int k = begins().get(block); k < end(block); k++) {
            most = Math.max(most, groups[k] + latency(k));
        }
        return most;
    }

    int emptySlots() {
        if (packing == null) return -5;
        int empty = 0;
        for (Bundle bundle : packing) {
            for (int instruction : bundle.slots) {
                if (instruction == -4) empty++;
            }
        }
        return empty;
    }

    int least(int block, int most) {
        if (!complete()) return -6;
        if (!inside(block, begins().size())) return -1;
        if (!inside(most, 5)) return -2;
        int best = leastFrom(block, begins().get(block), 0, new int[program.size()], most);
        return best > most ? -4 : best;
    }

    int codeLength() {
        return packing == null ? -5 : codeUpTo(packing.size()).size();
    }

    int code(int index) {
        if (packing == null) return -5;
        List<Integer> code = codeUpTo(packing.size());
        return inside(index, code.size()) ? code.get(index) + 2000 : -1;
    }

    int codeIndex(int block) {
        if (packing == null) return -5;
        if (!inside(block, begins().size())) return -1;
        int first = 0;
        while (packing.get(first).block != block) first++;
        return codeUpTo(first).size();
    }

    int setRegister(int register, int value) {
        if (!inside(register, 8)) return -1;
        registers[register] = value;
        return 1;
    }

    long register(int register) {
        return inside(register, 8) ? registers[register] : NO_VALUE;
    }

    int setMemory(int cell, int value) {
        if (!inside(cell, 16)) return -1;
        cells[cell] = value;
        return 1;
    }

    long memory(int cell) {
        return inside(cell, 16) ? cells[cell] : NO_VALUE;
    }

    int run(int steps) {
        if (!inside(steps, 301)) return -2;
        if (!complete()) return -6;
        return kept(program(steps));
    }

    int runBundles(int blocks) {
        if (!inside(blocks, 101)) return -2;
        if (packing == null) return -5;
        return kept(packing(blocks));
    }

    int compare(int steps) {
        if (!inside(steps, 301)) return -2;
        if (packing == null) return -5;
        Execution first = program(steps);
        if (first.result == -7) return -7;
        Execution second = packing(100000);
        return Arrays.equals(first.registers, second.registers) && Arrays.equals(first.cells, second.cells) ? 1 : 0;
    }

    private int kept(Execution execution) {
        registers = execution.registers;
        cells = execution.cells;
        return execution.result;
    }

    private static boolean inside(int number, int end) {
        return number >= 0 && number < end;
    }

    private static boolean valid(int operation, int d, int a, int b) {
        if (!inside(operation, 13)) return false;
        boolean writes = operation <= 8;
        boolean target = operation == 10 || operation == 11;
        boolean usesB = operation >= 1 && operation <= 7 || operation == 9 || operation == 11;
        boolean goodA = operation == 0 ? Math.abs((long) a) <= 999
                : operation == 12 ? a == 0 : inside(a, target ? 40 : 8);
        return (writes ? inside(d, 8) : d == 0) && goodA && (usesB ? inside(b, 8) : b == 0);
    }

    private void keep() {
        history.addLast(new ArrayList<>(program));
        if (history.size() > 10) history.removeFirst();
    }

    private int operation(int instruction) {
        return program.get(instruction)[0];
    }

    private boolean complete() {
        for (int[] one : program) {
            if ((one[0] == 10 || one[0] == 11) && one[2] >= program.size()) return false;
        }
        return true;
    }

    private List<Integer> begins() {
        TreeSet<Integer> begins = new TreeSet<>();
        begins.add(0);
        for (int k = 0; k < program.size(); k++) {
            if (operation(k) >= 10) begins.add(k + 1);
            if (operation(k) == 10 || operation(k) == 11) begins.add(program.get(k)[2]);
        }
        begins.remove(program.size());
        return new ArrayList<>(begins);
    }

    private int block(int instruction) {
        int block = -1;
        for (int begin : begins()) {
            if (begin <= instruction) block++;
        }
        return block;
    }

    private int end(int block) {
        List<Integer> begins = begins();
        return block + 1 < begins.size() ? begins.get(block + 1) : program.size();
    }

    private int latency(int instruction) {
        return operation(instruction) == 7 ? 3 : operation(instruction) == 8 ? 2 : 1;
    }

    private boolean writes(int instruction, int register) {
        return operation(instruction) <= 8 && program.get(instruction)[1] == register;
    }

    private boolean reads(int instruction, int register) {
        int[] one = program.get(instruction);
        boolean readsA = one[0] >= 1 && one[0] <= 9;
        boolean readsB = one[0] >= 1 && one[0] <= 7 || one[0] == 9 || one[0] == 11;
        return readsA && one[2] == register || readsB && one[3] == register;
    }

    private List<Integer> distances(int i, int j) {
        List<Integer> all = new ArrayList<>();
        for (int register = 0; register < 8; register++) {
            if (writes(i, register) && reads(j, register)) all.add(latency(i));
            if (writes(i, register) && writes(j, register)) all.add(Math.max(1, latency(i) - latency(j) + 1));
            if (reads(i, register) && writes(j, register)) all.add(0);
        }
        if (operation(i) == 9 && operation(j) == 9) all.add(1);
        if (operation(i) == 9 && operation(j) == 8) all.add(1);
        if (operation(i) == 8 && operation(j) == 9) all.add(0);
        if (operation(j) >= 10) all.add(0);
        return all;
    }

    private static boolean fits(int operation, int type) {
        if (operation <= 6) return type == 0 || type == 1;
        if (operation == 7) return type == 2;
        return operation <= 9 ? type == 0 : type == 3;
    }

    private int stopMarks(int template) {
        int stops = templates.get(template)[3];
        return stops % 2 + stops / 2 % 2 + stops / 4;
    }

    private boolean better(Bundle tried, Bundle best) {
        if (tried.put != best.put) return tried.put > best.put;
        int more = stopMarks(tried.template) - stopMarks(best.template);
        return tried.put > 0 ? more < 0 : more > 0;
    }

    private Bundle filled(int template, int block, int next, int group, int[] groupsSoFar) {
        Bundle bundle = new Bundle();
        bundle.template = template;
        bundle.block = block;
        bundle.groups = groupsSoFar.clone();
        bundle.next = next;
        bundle.group = group;
        for (int slot = 0; slot < 3; slot++) {
            if (bundle.next < end(block) && fits(operation(bundle.next), templates.get(template)[slot])
                    && allowed(bundle, begins().get(block))) {
                bundle.groups[bundle.next] = bundle.group;
                bundle.slots[slot] = bundle.next++;
                bundle.put++;
            }
            if ((templates.get(template)[3] & 1 << slot) != 0) bundle.group++;
        }
        return bundle;
    }

    private boolean allowed(Bundle bundle, int begin) {
        for (int i = begin; i < bundle.next; i++) {
            for (int distance : distances(i, bundle.next)) {
                if (bundle.groups[i] + distance > bundle.group) return false;
            }
        }
        return true;
    }

    private int leastFrom(int block, int next, int group, int[] groupsSoFar, int most) {
        if (next == end(block)) return 0;
        int best = most + 1;
        // Each bundle takes at most three instructions, and only a better number than the best one counts.
        if (end(block) - next > 3 * most) return best;
        for (int template = 0; template < templates.size(); template++) {
            Bundle bundle = filled(template, block, next, group, groupsSoFar);
            best = Math.min(best, 1 + leastFrom(block, bundle.next, bundle.group, bundle.groups, best - 2));
        }
        return best;
    }

    private List<Integer> codeUpTo(int end) {
        List<Integer> code = new ArrayList<>();
        int empty = 0;
        for (int k = 0; k < end; k++) {
            Bundle bundle = packing.get(k);
            if (bundle.put > 0) {
                int number = 1000 + 8 * bundle.template;
                for (int slot = 0; slot < 3; slot++) {
                    if (bundle.slots[slot] >= 0) number += (int) Math.pow(2, slot);
                }
                code.add(number);
                for (int instruction : bundle.slots) {
                    if (instruction >= 0) code.add(instruction);
                }
                continue;
            }
            empty++;
            boolean last = k + 1 == end || packing.get(k + 1).put > 0 || packing.get(k + 1).block != bundle.block;
            if (last) {
                code.add(-empty);
                empty = 0;
            }
        }
        return code;
    }

    private Execution start() {
        Execution execution = new Execution();
        execution.registers = registers.clone();
        execution.cells = cells.clone();
        return execution;
    }

    private static int value(int[] one, int[] registers, int[] cells) {
        switch (one[0]) {
            case 0: return one[2];
            case 1: return registers[one[2]] + registers[one[3]];
            case 2: return registers[one[2]] - registers[one[3]];
            case 3: return registers[one[2]] & registers[one[3]];
            case 4: return registers[one[2]] ^ registers[one[3]];
            case 5: return registers[one[2]] >> (registers[one[3]] & 31);
            case 6: return registers[one[2]] < registers[one[3]] ? 1 : 0;
            case 7: return registers[one[2]] * registers[one[3]];
            case 8: return cells[registers[one[2]] & 15];
            case 9: return registers[one[3]];
            case 11: return registers[one[3]];
            default: return 0;
        }
    }

    private Execution program(int steps) {
        Execution execution = start();
        int at = 0;
        boolean stopped = at == program.size();
        while (!stopped && execution.result < steps) {
            int[] one = program.get(at);
            int value = value(one, execution.registers, execution.cells);
            if (one[0] <= 8) execution.registers[one[1]] = value;
            if (one[0] == 9) execution.cells[execution.registers[one[2]] & 15] = value;
            at = one[0] == 10 || one[0] == 11 && value != 0 ? one[2] : at + 1;
            execution.result++;
            stopped = one[0] == 12 || at == program.size();
        }
        if (!stopped) execution.result = -7;
        return execution;
    }

    private Execution packing(int most) {
        Execution execution = start();
        int block = 0;
        int cycles = 0;
        boolean stopped = program.isEmpty();
        for (int executed = 0; executed < most && !stopped; executed++) {
            cycles += cycles(block);
            int at = packed(block, execution);
            stopped = at < 0 || at == program.size();
            block = stopped ? block : block(at);
        }
        execution.result = stopped ? cycles : -7;
        return execution;
    }

    /** Executes a block with a time table of results and returns the next instruction, -1 for a stop. */
    private int packed(int block, Execution execution) {
        TreeMap<Integer, List<int[]>> table = new TreeMap<>();
        int at = end(block);
        for (int group = 0; group <= cycles(block); group++) {
            for (int[] result : table.getOrDefault(group, List.of())) {
                (result[0] == 9 ? execution.cells : execution.registers)[result[1]] = result[2];
            }
            for (int k = begins().get(block); k < end(block); k++) {
                if (groups[k] != group) continue;
                int[] one = program.get(k);
                int value = value(one, execution.registers, execution.cells);
                int place = one[0] == 9 ? execution.registers[one[2]] & 15 : one[1];
                if (one[0] <= 9) {
                    table.computeIfAbsent(group + latency(k), time -> new ArrayList<>())
                            .add(new int[] {one[0], place, value});
                }
                if (one[0] == 10 || one[0] == 11 && value != 0) at = one[2];
                if (one[0] == 12) at = -1;
            }
        }
        return at;
    }
}
