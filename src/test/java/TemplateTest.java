/** Promises 12 to 15: addTemplate, clearTemplates, templateCount, template. */
public final class TemplateTest {
    public static void main(String[] args) {
        templates();
        refusals();
        eightTemplates();
        clearing();
        Calls.end("TemplateTest");
    }

    private static void templates() {
        Calls.run("12, 14 and 15, templates", "templateCount() -> 0, addTemplate(0,1,2,5) -> 0, templateCount() -> 1",
                "addTemplate(3,3,3,7) -> 1, addTemplate(0,0,0,0) -> 2, templateCount() -> 3, template(0,0) -> 0",
                "template(0,1) -> 1, template(0,2) -> 2, template(0,3) -> 5, template(1,0) -> 3, template(1,1) -> 3",
                "template(1,2) -> 3, template(1,3) -> 7, template(2,0) -> 0, template(2,3) -> 0",
                "addTemplate(0,1,2,5) -> 3, templateCount() -> 4");
    }

    private static void refusals() {
        Calls.run("12, bad values", "addTemplate(4,0,0,0) -> -2, addTemplate(-1,0,0,0) -> -2",
                "addTemplate(0,4,0,0) -> -2, addTemplate(0,-1,0,0) -> -2, addTemplate(0,0,4,0) -> -2",
                "addTemplate(0,0,-1,0) -> -2, addTemplate(0,0,0,8) -> -2, addTemplate(0,0,0,-1) -> -2",
                "addTemplate(2147483647,0,0,-2147483648) -> -2, templateCount() -> 0");
        Calls.run("15, refusals", "template(0,0) -> -1, template(0,4) -> -1, addTemplate(1,1,1,1) -> 0",
                "template(1,0) -> -1, template(-1,0) -> -1, template(8,0) -> -1, template(0,4) -> -2",
                "template(0,-1) -> -2, template(1,4) -> -1, template(-2147483648,0) -> -1",
                "template(0,2147483647) -> -2");
        Calls.run("12 and 13, the state", "pack() -> 0, addTemplate(0,0,0,0) -> -5, addTemplate(0,0,0,8) -> -2",
                "clearTemplates() -> -5, templateCount() -> 0, unpack() -> 0, addTemplate(0,0,0,0) -> 0, pack() -> 0",
                "clearTemplates() -> -5, templateCount() -> 1, template(0,0) -> 0, unpack() -> 0",
                "clearTemplates() -> 1");
    }

    private static void eightTemplates() {
        SlotBundler bundler = new SlotBundler();
        for (int k = 0; k < 8; k++) {
            Calls.due("12, template " + k, bundler.addTemplate(k % 4, k / 2, 3 - k % 4, 7 - k), k);
        }
        Calls.due("12, full", bundler.addTemplate(0, 0, 0, 0), -3);
        Calls.due("12, bad before full", bundler.addTemplate(0, 0, 0, 8), -2);
        Calls.due("14, eight", bundler.templateCount(), 8);
        for (int k = 0; k < 8; k++) {
            Calls.due("15, type 0 of " + k, bundler.template(k, 0), k % 4);
            Calls.due("15, type 1 of " + k, bundler.template(k, 1), k / 2);
            Calls.due("15, type 2 of " + k, bundler.template(k, 2), 3 - k % 4);
            Calls.due("15, stops of " + k, bundler.template(k, 3), 7 - k);
        }
        Calls.due("16, a packing", bundler.pack(), 0);
        Calls.due("12, state before full", bundler.addTemplate(0, 0, 0, 0), -5);
        Calls.due("17, unpack", bundler.unpack(), 0);
        Calls.due("13, eight", bundler.clearTemplates(), 8);
        Calls.due("12, room again", bundler.addTemplate(0, 0, 0, 0), 0);
    }

    private static void clearing() {
        Calls.run("13, clearing", "clearTemplates() -> 0, addTemplate(1,2,3,4) -> 0, addTemplate(1,2,3,4) -> 1",
                "clearTemplates() -> 2, templateCount() -> 0, template(0,0) -> -1, clearTemplates() -> 0",
                "addTemplate(2,2,2,2) -> 0, template(0,3) -> 2");
    }
}
