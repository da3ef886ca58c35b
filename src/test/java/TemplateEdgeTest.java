/** The boundary cases of promises 12 to 15 and of "Templates", a sentence each. */
public final class TemplateEdgeTest {
    public static void main(String[] args) {
        typesAndStops();
        eightTemplates();
        orderOfAddTemplate();
        clearTemplates();
        templateCount();
        template();
        Calls.end("TemplateEdgeTest");
    }

    private static void typesAndStops() {
        for (int first = 0; first <= 3; first++) {
            for (int second = 0; second <= 3; second++) {
                for (int third = 0; third <= 3; third++) {
                    for (int stops = 0; stops <= 7; stops++) {
                        Calls.run("12 and 15, all types and stop marks",
                                "addTemplate(" + first + "," + second + "," + third + "," + stops + ") -> 0",
                                "template(0,0) -> " + first + ", template(0,1) -> " + second,
                                "template(0,2) -> " + third + ", template(0,3) -> " + stops + ", templateCount() -> 1");
                    }
                }
            }
        }
        for (String state : new String[] {States.NEW, States.PROGRAM, States.INCOMPLETE}) {
            for (String bad : new String[] {"-1", "4", "-2147483648", "2147483647"}) {
                Twins.refuse("12, the type of a slot, 0 to 3", state, "addTemplate(" + bad + ",0,0,0) -> -2",
                        "addTemplate(0," + bad + ",0,0) -> -2", "addTemplate(0,0," + bad + ",0) -> -2",
                        "addTemplate(" + bad + "," + bad + "," + bad + "," + bad + ") -> -2");
            }
            for (String bad : new String[] {"-1", "8", "-2147483648", "2147483647"}) {
                Twins.refuse("12, the stop marks as bits, 0 to 7", state, "addTemplate(0,0,0," + bad + ") -> -2",
                        "addTemplate(3,3,3," + bad + ") -> -2");
            }
        }
    }

    private static void eightTemplates() {
        String title = "12, there are at most 8 templates";
        Calls.run(title, Calls.times(7, "addTemplate(0,1,2,3)"), "addTemplate(3,2,1,0) -> 7",
                "addTemplate(3,2,1,0) -> -3",
                "templateCount() -> 8, template(7,0) -> 3, template(7,3) -> 0, template(8,0) -> -1",
                "clearTemplates() -> 8, addTemplate(1,1,1,1) -> 0, templateCount() -> 1, template(1,0) -> -1");
        Twins.refuse(title, States.FULL, "addTemplate(0,0,0,0) -> -3, addTemplate(3,3,3,7) -> -3");
        Calls.run("12, without instructions and incomplete", "addTemplate(3,3,3,7) -> 0, add(10,0,9,0) -> 0",
                "addTemplate(0,1,2,3) -> 1, templateCount() -> 2");
    }

    private static void orderOfAddTemplate() {
        Twins.refuse("12, BAD_VALUE is checked first", States.FULL_PACKED, "addTemplate(4,0,0,0) -> -2",
                "addTemplate(0,0,0,8) -> -2");
        Twins.refuse("12, BAD_VALUE is checked first", States.FULL, "addTemplate(0,4,0,0) -> -2",
                "addTemplate(0,0,-1,0) -> -2");
        Twins.refuse("12, BAD_VALUE is checked first", States.PACKED, "addTemplate(0,0,0,-1) -> -2");
        Twins.refuse("12, STATE is checked second", States.FULL_PACKED, "addTemplate(0,0,0,0) -> -5");
        Twins.refuse("12, STATE if there is a packing", States.PACKED, "addTemplate(0,0,0,0) -> -5");
        Twins.refuse("12, STATE if there is a packing", States.EMPTY_PACKED, "addTemplate(0,0,0,0) -> -5");
        Calls.run("12, STATE if there is a packing", States.PACKED, "unpack() -> 5, addTemplate(0,0,0,0) -> 3");
    }

    private static void clearTemplates() {
        Calls.run("13, the previous number of templates", "clearTemplates() -> 0, addTemplate(0,0,0,0) -> 0",
                "clearTemplates() -> 1, clearTemplates() -> 0, templateCount() -> 0, template(0,0) -> -1");
        Calls.run("13, the previous number of templates", States.FULL, "clearTemplates() -> 8, templateCount() -> 0",
                "template(0,0) -> -1, template(7,0) -> -1, clearTemplates() -> 0, pack() -> -8, size() -> 40");
        Twins.refuse("13, STATE if there is a packing", States.PACKED, "clearTemplates() -> -5");
        Twins.refuse("13, STATE if there is a packing", States.FULL_PACKED, "clearTemplates() -> -5");
        Twins.refuse("13, STATE if there is a packing", States.EMPTY_PACKED, "clearTemplates() -> -5");
        Calls.run("13, STATE if there is a packing", States.PACKED, "unpack() -> 5, clearTemplates() -> 3");
    }

    private static void templateCount() {
        Twins.look("14, the number of templates", States.NEW, "templateCount() -> 0");
        Twins.look("14, the number of templates", States.EMPTY_PACKED, "templateCount() -> 0");
        Twins.look("14, the number of templates", States.PACKED, "templateCount() -> 3");
        Twins.look("14, the number of templates", States.FULL, "templateCount() -> 8");
    }

    private static void template() {
        Twins.refuse("15, without templates", States.NEW, "template(0,0) -> -1, template(-1,0) -> -1",
                "template(0,4) -> -1");
        for (String state : new String[] {States.PROGRAM, States.PACKED, States.INCOMPLETE}) {
            Twins.look("15, a part of a template", state, "template(0,0) -> 0, template(0,3) -> 4, template(2,2) -> 3",
                    "template(2,3) -> 1, template(1,0) -> 2, template(1,1) -> 1");
            Twins.refuse("15, NO_SUCH_ELEMENT if there is no such template", state, "template(-1,0) -> -1",
                    "template(3,0) -> -1, template(8,0) -> -1, template(-2147483648,3) -> -1",
                    "template(2147483647,3) -> -1");
            Twins.refuse("15, NO_SUCH_ELEMENT is checked first", state, "template(3,4) -> -1, template(-1,-1) -> -1");
            Twins.refuse("15, 0 to 2 for the type of this slot, 3 for the stop marks", state, "template(0,-1) -> -2",
                    "template(0,4) -> -2, template(2,-2147483648) -> -2, template(2,2147483647) -> -2");
        }
        Twins.look("15, the last of 8", States.FULL, "template(7,0) -> 1, template(7,3) -> 5, template(8,0) -> -1");
    }
}
