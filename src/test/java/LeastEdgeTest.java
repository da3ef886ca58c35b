/** The boundary cases of promise 23, a sentence each. */
public final class LeastEdgeTest {
    public static void main(String[] args) {
        mostFrom0To4();
        blocks();
        order();
        moreThanMost();
        templatesThatThereAre();
        filledByTheirTemplates();
        freelyChosen();
        emptyBundles();
        eightTemplates();
        Calls.end("LeastEdgeTest");
    }

    private static void mostFrom0To4() {
        for (String state : new String[] {States.PROGRAM, States.PACKED, States.FULL, States.FULL_PACKED}) {
            Twins.refuse("23, most is from 0 to 4", state, "least(0,-1) -> -2, least(0,5) -> -2, least(1,5) -> -2",
                    "least(0,-2147483648) -> -2, least(0,2147483647) -> -2");
        }
        Twins.look("23, most is from 0 to 4", States.PACKED, "least(1,0) -> -4, least(1,1) -> 1, least(1,2) -> 1",
                "least(1,3) -> 1, least(1,4) -> 1, least(0,0) -> -4, least(0,1) -> -4, least(0,2) -> -4",
                "least(0,3) -> 3, least(0,4) -> 3");
    }

    private static void blocks() {
        for (String state : new String[] {States.PROGRAM, States.PACKED}) {
            Twins.refuse("23, NO_SUCH_ELEMENT if there is no such block", state, "least(-1,1) -> -1, least(3,1) -> -1",
                    "least(39,0) -> -1, least(40,4) -> -1, least(-2147483648,4) -> -1, least(2147483647,4) -> -1");
            Twins.look("23, the blocks", state, "least(0,4) -> 3, least(1,4) -> 1, least(2,4) -> 1");
        }
        Twins.refuse("23, without blocks", States.NEW, "least(0,0) -> -1, least(0,4) -> -1, least(-1,0) -> -1");
        Twins.refuse("23, without blocks", States.EMPTY_PACKED, "least(0,1) -> -1, least(0,5) -> -1");
        Calls.run("23, the last of 40", Calls.times(40, "add(12,0,0,0)"), "addTemplate(3,3,3,0), least(39,4) -> 1",
                "least(40,4) -> -1");
    }

    private static void order() {
        Twins.refuse("23, INCOMPLETE is checked first", States.INCOMPLETE, "least(0,4) -> -6, least(-1,4) -> -6",
                "least(3,4) -> -6, least(0,5) -> -6, least(9,-1) -> -6");
        Twins.refuse("23, NO_SUCH_ELEMENT is checked second", States.PACKED, "least(3,5) -> -1, least(-1,-1) -> -1");
        Twins.refuse("23, BAD_VALUE is checked third", States.PACKED, "least(2,5) -> -2, least(2,-1) -> -2");
        Twins.refuse("23, BAD_VALUE is checked third", "add(12,0,0,0)", "least(0,5) -> -2, least(0,-1) -> -2");
    }

    private static void moreThanMost() {
        String title = "23, NONE if more than most bundles are needed";
        SlotBundler bundler = Calls.run(title, "addTemplate(0,0,0,4)");
        for (int count = 1; count <= 14; count++) {
            Calls.go(title, bundler, "add(0," + count % 8 + ",1,0)");
            int needed = (count + 2) / 3;
            for (int most = 0; most <= 4; most++) {
                Calls.due(title + ": " + count + " in " + most, bundler.least(0, most), needed <= most ? needed : -4);
            }
        }
        Twins.refuse(title, States.FULL_PACKED, "least(0,0) -> -4, least(0,4) -> -4");
        Twins.refuse(title, States.PACKED, "least(0,2) -> -4, least(2,0) -> -4");
        Calls.run(title, "add(7,1,2,2), add(1,3,1,1), addTemplate(2,1,1,4), least(0,4) -> 4, least(0,3) -> -4",
                "pack() -> 4, unpack(), set(0,8,1,2,0), addTemplate(0,1,1,4), least(0,4) -> 3, least(0,2) -> -4",
                "set(0,0,1,2,0), least(0,4) -> 2, least(0,1) -> -4, set(1,0,3,1,0), least(0,4) -> 1, least(0,0) -> -4");
        Calls.run("23, four are taken, five are not", "add(7,1,2,2), add(7,1,1,1), add(0,2,5,0), addTemplate(2,1,1,4)",
                "least(0,4) -> 4, pack() -> 4, unpack(), set(2,7,2,1,1), least(0,4) -> -4, pack() -> 7");
    }

    private static void templatesThatThereAre() {
        String title = "Details: without templates there is no such number, as there is none with 0 bundles";
        Twins.refuse(title, "add(12,0,0,0)", "least(0,0) -> -4, least(0,1) -> -4, least(0,4) -> -4");
        Twins.refuse(title, "add(12,0,0,0), addTemplate(3,3,3,0)", "least(0,0) -> -4");
        Calls.run(title, "add(12,0,0,0), addTemplate(3,3,3,0), least(0,1) -> 1, clearTemplates(), least(0,1) -> -4",
                "addTemplate(0,1,2,7), least(0,4) -> -4, addTemplate(0,1,3,0), least(0,4) -> 1");
        Twins.refuse("23, a block that no slot takes", States.IMPOSSIBLE, "least(0,4) -> -4, least(1,4) -> -4");
    }

    private static void filledByTheirTemplates() {
        Calls.run("23, each bundle is filled by its template, in order", "add(0,1,1,0), add(7,2,5,5), add(0,3,1,0)",
                "addTemplate(1,1,2,0), least(0,4) -> 2, addTemplate(2,1,1,0), least(0,4) -> 2, addTemplate(1,2,1,0)",
                "least(0,4) -> 1");
        Calls.run("23, each bundle keeps the distances", "add(0,1,1,0), add(1,2,1,1), add(1,3,2,2)",
                "addTemplate(1,1,1,0), least(0,4) -> -4, addTemplate(1,1,1,4), least(0,4) -> 3",
                "addTemplate(1,1,1,2), least(0,4) -> 2, addTemplate(1,1,1,3), least(0,4) -> 1");
    }

    private static void freelyChosen() {
        Calls.run("23, not the template that the packing takes", "add(7,1,2,2), add(1,3,1,1), addTemplate(2,1,1,0)",
                "addTemplate(2,3,3,7), pack() -> 3, least(0,4) -> 2, least(0,2) -> 2, least(0,1) -> -4");
        Calls.run("23, the first bundle takes less than it could", "add(0,1,1,0), add(0,2,1,0), add(7,3,5,5)",
                "add(0,4,1,0), add(12,0,0,0), addTemplate(1,1,0,0), addTemplate(1,3,3,0), addTemplate(2,1,3,0)",
                "least(0,4) -> 2");
    }

    private static void emptyBundles() {
        String title = "Details: the templates of all bundles, also of empty ones, are chosen";
        String waiting = "add(7,1,2,2), add(1,3,1,1), ";
        Calls.run(title, waiting + "addTemplate(2,1,1,4), least(0,4) -> 4, addTemplate(3,3,3,6), least(0,4) -> 3");
        Calls.run(title, waiting + "addTemplate(2,1,1,0), least(0,4) -> -4, addTemplate(3,3,3,4), least(0,4) -> -4");
        Calls.run(title, waiting + "addTemplate(2,1,1,0), addTemplate(3,3,3,6), least(0,4) -> 4, least(0,3) -> -4");
        Calls.run(title, waiting + "addTemplate(2,1,1,0), addTemplate(3,3,3,7), least(0,4) -> 3, least(0,2) -> -4");
    }

    private static void eightTemplates() {
        String seven = Calls.times(7, "addTemplate(2,3,3,7)");
        Calls.run("23, the last of 8 templates", "add(0,1,1,0), add(0,2,1,0)", seven, "least(0,4) -> -4",
                "addTemplate(3,3,1,0) -> 7, least(0,4) -> 2, least(0,1) -> -4");
        Calls.run("23, 4 bundles of 8 templates", "add(7,1,5,5), add(7,2,5,5), add(7,3,5,5), add(7,4,5,5)", seven,
                "addTemplate(2,0,2,0) -> 7, least(0,4) -> 2, add(7,6,5,5), add(7,7,5,5), least(0,4) -> 3",
                "add(7,0,5,5), least(0,4) -> 4, least(0,3) -> -4, add(7,5,5,5), least(0,4) -> 4, add(0,5,1,0)",
                "least(0,4) -> -4");
    }
}
