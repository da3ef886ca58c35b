/** The runs of the document's "Examples". */
public final class ExamplesTest {
    public static void main(String[] args) {
        Calls.run("Three instructions in two bundles",
                "add(0,1,6,0) -> 0, add(0,2,7,0) -> 1, add(7,3,1,2) -> 2, addTemplate(0,1,1,4) -> 0",
                "addTemplate(0,2,3,4) -> 1, pack() -> 2, bundle(0,0) -> 0, bundle(0,2) -> -4, bundle(1,1) -> 2",
                "placeOf(2,2) -> 1, cycles(0) -> 4");
        Calls.run("Stops and empty places of a template",
                "add(7,1,2,2) -> 0, add(1,3,1,1) -> 1, addTemplate(2,1,1,4) -> 0, pack() -> 4, placeOf(1,2) -> 3",
                "codeLength() -> 5, code(0) -> 3001, code(1) -> 2000, code(2) -> 1998");
        Calls.run("Distances",
                "add(7,1,2,2) -> 0, add(0,1,5,0) -> 1, distance(0,1) -> 3, add(8,3,1,0) -> 2, add(9,0,1,3) -> 3",
                "distance(2,3) -> 2, distance(1,3) -> 1");
        Calls.run("Blocks and a difference between both runs",
                "add(11,0,2,0) -> 0, add(0,1,5,0) -> 1, add(12,0,0,0) -> 2, blockCount() -> 3, blockBegin(1) -> 1",
                "addTemplate(1,1,3,0) -> 0, pack() -> 3, setRegister(0,1) -> 1, compare(9) -> 1, runBundles(9) -> 2",
                "register(1) -> 0");
        Calls.run("Refusals and changes that are undone",
                "add(10,0,1,0) -> 0, pack() -> -6, removeLast() -> 0, undo() -> 1, blockCount() -> -6",
                "addTemplate(0,0,0,0) -> 0, undo() -> 0, pack() -> 0, unpack() -> 0");
        Calls.end("ExamplesTest");
    }
}
