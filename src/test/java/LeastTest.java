/** Promise 23: least. */
public final class LeastTest {
    public static void main(String[] args) {
        fullBundles();
        betterThanPacked();
        emptyBundles();
        noTemplates();
        eachBlockForItself();
        refusals();
        leavesThePacking();
        Calls.end("LeastTest");
    }

    private static void fullBundles() {
        SlotBundler bundler = new SlotBundler();
        bundler.addTemplate(0, 0, 0, 0);
        for (int k = 1; k <= 13; k++) {
            bundler.add(0, k % 8, k, 0);
            int needed = (k + 2) / 3;
            for (int most = 0; most <= 4; most++) {
                // Two constants for the same register are one group apart, which this template never is.
                boolean packs = k <= 8 && needed <= most;
                Calls.due("23, " + k + " constants in " + most, bundler.least(0, most), packs ? needed : -4);
            }
        }
        bundler.addTemplate(0, 0, 0, 4);
        Calls.due("23, 13 constants with stop marks", bundler.least(0, 4), -4);
        bundler.removeLast();
        Calls.due("23, 12 constants with stop marks", bundler.least(0, 4), 4);
        Calls.due("23, 12 constants in 3", bundler.least(0, 3), -4);
    }

    private static void betterThanPacked() {
        Calls.run("23, stop marks that the packing avoids", "add(7,1,2,2) -> 0, add(1,3,1,1) -> 1",
                "addTemplate(2,1,1,0) -> 0, addTemplate(2,2,2,7) -> 1, least(0,4) -> 2, pack() -> 3, least(0,4) -> 2",
                "least(0,3) -> 2, least(0,2) -> 2, least(0,1) -> -4, least(0,0) -> -4");
        Calls.run("23, each bundle is filled in order", "add(8,1,2,0) -> 0, add(0,3,1,0) -> 1, add(8,4,2,0) -> 2",
                "addTemplate(1,0,0,4) -> 0, addTemplate(0,1,1,4) -> 1, least(0,4) -> 2, addTemplate(0,1,0,0) -> 2",
                "least(0,4) -> 1");
        Calls.run("23, two templates in turn", "add(0,1,1,0) -> 0, add(7,2,3,3) -> 1, add(7,4,3,3) -> 2",
                "add(7,5,3,3) -> 3, add(12,0,0,0) -> 4, addTemplate(1,2,1,4) -> 0, addTemplate(2,2,3,4) -> 1",
                "least(0,4) -> 2, least(0,1) -> -4, pack() -> 2");
    }

    private static void emptyBundles() {
        Calls.run("23, bundles that stay empty", "add(7,1,2,2) -> 0, add(1,3,1,1) -> 1, addTemplate(2,1,1,4) -> 0",
                "least(0,4) -> 4, least(0,3) -> -4, pack() -> 4, unpack() -> 4, addTemplate(3,3,3,7) -> 1",
                "least(0,4) -> 3, least(0,2) -> -4");
        Calls.run("23, no stop mark at all", "add(7,1,2,2) -> 0, add(1,3,1,1) -> 1, addTemplate(2,1,1,0) -> 0",
                "least(0,4) -> -4, pack() -> -8");
        Calls.run("23, more than four", "add(7,1,2,2) -> 0, add(7,1,1,1) -> 1, add(0,2,1,0) -> 2",
                "addTemplate(2,1,1,4) -> 0, least(0,4) -> 4, add(1,2,1,1) -> 3, least(0,4) -> -4");
    }

    private static void noTemplates() {
        Calls.run("23, without templates", "add(12,0,0,0) -> 0, least(0,4) -> -4, least(0,0) -> -4",
                "addTemplate(3,3,3,0) -> 0, least(0,0) -> -4, least(0,1) -> 1, least(0,4) -> 1, clearTemplates() -> 1",
                "least(0,1) -> -4");
        Calls.run("23, no slot for it", "add(12,0,0,0) -> 0, addTemplate(0,1,2,7) -> 0, least(0,4) -> -4");
    }

    private static void eachBlockForItself() {
        Calls.run("23, several blocks", "add(7,1,2,2) -> 0, add(10,0,2,0) -> 1, add(7,1,1,1) -> 2, add(1,2,1,1) -> 3",
                "add(12,0,0,0) -> 4, addTemplate(2,1,3,7) -> 0, least(0,4) -> 1, least(1,4) -> 2, least(1,1) -> -4");
    }

    private static void refusals() {
        Calls.run("23, refusals", "least(0,0) -> -1, least(0,5) -> -1, add(12,0,0,0) -> 0, least(0,5) -> -2",
                "least(0,-1) -> -2, least(1,0) -> -1, least(1,5) -> -1, least(-1,0) -> -1, least(40,0) -> -1",
                "least(0,2147483647) -> -2, least(-2147483648,1) -> -1, add(10,0,2,0) -> 1, least(0,1) -> -6",
                "least(9,9) -> -6");
    }

    private static void leavesThePacking() {
        Calls.run("23, the packing stays", "add(7,1,2,2) -> 0, add(1,3,1,1) -> 1, addTemplate(2,1,1,0) -> 0",
                "addTemplate(2,2,2,7) -> 1, pack() -> 3, least(0,4) -> 2, placeOf(1,0) -> 2, placeOf(1,2) -> 3",
                "bundle(0,3) -> 0, bundle(1,3) -> 1, cycles(0) -> 4, setRegister(2,3) -> 1, runBundles(1) -> 4",
                "register(3) -> 18");
    }
}
