import java.util.ArrayList;
import java.util.HashMap;
import java.util.List;
import java.util.Map;

/**
 * Checks that a refused call leaves everything as it was before it: of two objects with the same calls, one makes the
 * refused call as well, and both must answer alike to all calls that look at them, and to those that go on with them.
 * Each view has two objects of its own, so that none has more than 512 calls.
 */
final class Twins {
    private static final int MOST_CALLS = 512;
    private static final int MOST_INSTRUCTIONS = 40;
    private static final View[] VIEWS = {View.PROGRAM, View.BLOCKS, View.BUNDLES, View.PLACES, View.MACHINE,
        View.HISTORY, View.FUTURE};
    private static final Map<String, List<Long>> UNTOUCHED = new HashMap<>();

    private enum View { PROGRAM, BLOCKS, BUNDLES, PLACES, MACHINE, HISTORY, FUTURE }

    private Twins() {
    }

    /** Each call for itself is made in the state and must answer its error code and leave everything unchanged. */
    static void refuse(String title, String state, String... calls) {
        for (Calls.Call call : Calls.parse(calls)) {
            if (call.due() == null || call.due() >= 0) {
                throw new IllegalArgumentException(call.text() + " must be refused");
            }
            leaveUnchanged(title, state, call);
        }
    }

    /** The same for calls that look at something: each must answer what is due and leave everything unchanged. */
    static void look(String title, String state, String... calls) {
        for (Calls.Call call : Calls.parse(calls)) {
            leaveUnchanged(title, state, call);
        }
    }

    private static void leaveUnchanged(String title, String state, Calls.Call call) {
        for (View view : VIEWS) {
            SlotBundler bundler = Calls.run(title, state);
            Calls.check(title, bundler, call);
            List<Long> seen = seen(view, bundler);
            if (Calls.parse(state).size() + 1 + seen.size() > MOST_CALLS) {
                throw new IllegalStateException(title + ": too many calls for " + view);
            }
            boolean unchanged = seen.equals(untouched(title, state, view));
            Calls.due(title + ": " + call.text() + " leaves " + view + " unchanged (1 is yes)", unchanged ? 1 : 0, 1);
        }
    }

    private static List<Long> untouched(String title, String state, View view) {
        return UNTOUCHED.computeIfAbsent(view + " " + state, key -> seen(view, Calls.run(title, state)));
    }

    private static List<Long> seen(View view, SlotBundler bundler) {
        List<Long> seen = new ArrayList<>();
        switch (view) {
            case PROGRAM -> program(bundler, seen);
            case BLOCKS -> blocks(bundler, seen);
            case BUNDLES -> bundles(bundler, seen);
            case PLACES -> places(bundler, seen);
            case MACHINE -> machine(bundler, seen);
            case HISTORY -> history(bundler, seen);
            case FUTURE -> future(bundler, seen);
        }
        return seen;
    }

    private static void program(SlotBundler bundler, List<Long> seen) {
        seen.add((long) bundler.size());
        for (int k = 0; k < bundler.size(); k++) {
            for (int what = 0; what < 4; what++) {
                seen.add((long) bundler.part(k, what));
            }
        }
    }

    private static void blocks(SlotBundler bundler, List<Long> seen) {
        seen.add((long) bundler.blockCount());
        for (int k = 0; k <= MOST_INSTRUCTIONS; k++) {
            seen.add((long) bundler.blockOf(k));
            seen.add((long) bundler.blockBegin(k));
            for (int later = k + 1; later < k + 5; later++) {
                seen.add((long) bundler.distance(k, later));
            }
        }
        seen.add((long) bundler.templateCount());
        for (int template = 0; template < 8; template++) {
            for (int what = 0; what < 4; what++) {
                seen.add((long) bundler.template(template, what));
            }
        }
    }

    private static void bundles(SlotBundler bundler, List<Long> seen) {
        seen.add((long) bundler.bundleCount());
        for (int bundle = 0; bundle < Math.max(1, bundler.bundleCount()); bundle++) {
            for (int what = 0; what < 5; what++) {
                seen.add((long) bundler.bundle(bundle, what));
            }
        }
    }

    private static void places(SlotBundler bundler, List<Long> seen) {
        for (int k = 0; k < MOST_INSTRUCTIONS; k++) {
            for (int what = 0; what < 3; what++) {
                seen.add((long) bundler.placeOf(k, what));
            }
            seen.add((long) bundler.cycles(k));
            seen.add((long) bundler.codeIndex(k));
        }
        seen.add((long) bundler.emptySlots());
        seen.add((long) bundler.codeLength());
        for (int index = 0; index <= bundler.codeLength(); index++) {
            seen.add((long) bundler.code(index));
        }
    }

    private static void machine(SlotBundler bundler, List<Long> seen) {
        for (int k = 0; k < 8; k++) {
            seen.add(bundler.register(k));
        }
        for (int k = 0; k < 16; k++) {
            seen.add(bundler.memory(k));
        }
    }

    private static void history(SlotBundler bundler, List<Long> seen) {
        seen.add((long) bundler.unpack());
        for (int k = 0; k < 11; k++) {
            seen.add((long) bundler.undo());
            seen.add((long) bundler.size());
        }
        program(bundler, seen);
        machine(bundler, seen);
    }

    private static void future(SlotBundler bundler, List<Long> seen) {
        for (int block = 0; block < 3; block++) {
            seen.add((long) bundler.least(block, 4));
        }
        seen.add((long) bundler.compare(300));
        seen.add((long) bundler.run(300));
        machine(bundler, seen);
        seen.add((long) bundler.runBundles(100));
        machine(bundler, seen);
        seen.add((long) bundler.pack());
        seen.add((long) bundler.unpack());
        seen.add((long) bundler.add(0, 6, 66, 0));
        seen.add((long) bundler.addTemplate(0, 2, 3, 4));
        seen.add((long) bundler.templateCount());
        seen.add((long) bundler.pack());
        seen.add((long) bundler.codeLength());
    }
}
