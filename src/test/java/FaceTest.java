import java.io.IOException;
import java.lang.reflect.Constructor;
import java.lang.reflect.Field;
import java.lang.reflect.Method;
import java.lang.reflect.Modifier;
import java.nio.file.Files;
import java.nio.file.Path;
import java.util.ArrayList;
import java.util.Arrays;
import java.util.List;
import java.util.TreeSet;
import java.util.regex.Matcher;
import java.util.regex.Pattern;

/** The public face with its constants, and the words that the program's part of Java does not have. */
public final class FaceTest {
    private static final Path SOURCE = Path.of("src/main/java/SlotBundler.java");
    private static final String[] CONSTANTS = {"NO_SUCH_ELEMENT", "BAD_VALUE", "FULL", "NONE", "STATE", "INCOMPLETE",
        "LIMIT", "IMPOSSIBLE"};
    private static final String[] METHODS = {"int add(4)", "int set(5)", "int removeLast(0)", "int size(0)",
        "int part(2)", "int undo(0)", "int blockCount(0)", "int blockOf(1)", "int blockBegin(1)", "int distance(2)",
        "int addTemplate(4)", "int clearTemplates(0)", "int templateCount(0)", "int template(2)", "int pack(0)",
        "int unpack(0)", "int bundleCount(0)", "int bundle(2)", "int placeOf(2)", "int cycles(1)", "int emptySlots(0)",
        "int least(2)", "int codeLength(0)", "int code(1)", "int codeIndex(1)", "int setRegister(2)",
        "long register(1)", "int setMemory(2)", "long memory(1)", "int run(1)", "int runBundles(1)",
        "int compare(1)"};
    private static final String RULED_OUT = "\\b(import|package|throw|throws|try|catch|finally|synchronized|assert"
            + "|System\\.(?!arraycopy)\\w+|Thread|Random|Object|equals|hashCode|toString|float|double|protected|native"
            + "|volatile|transient|var)\\b|->|::|\\b\\w*Exact\\b|[^\\x00-\\x7f]";

    public static void main(String[] args) throws IOException {
        constants();
        members();
        words();
        Calls.end("FaceTest");
    }

    private static void constants() {
        long[] values = {SlotBundler.NO_SUCH_ELEMENT, SlotBundler.BAD_VALUE, SlotBundler.FULL, SlotBundler.NONE,
            SlotBundler.STATE, SlotBundler.INCOMPLETE, SlotBundler.LIMIT, SlotBundler.IMPOSSIBLE};
        for (int k = 0; k < values.length; k++) {
            Calls.due(CONSTANTS[k], values[k], -1 - k);
        }
    }

    private static void members() {
        same("the class", SlotBundler.class.getModifiers(), Modifier.PUBLIC | Modifier.FINAL);
        List<String> methods = new ArrayList<>();
        for (Method method : SlotBundler.class.getDeclaredMethods()) {
            if (!Modifier.isPrivate(method.getModifiers())) {
                same(method.getName(), method.getModifiers(), Modifier.PUBLIC);
                methods.add(method.getReturnType() + " " + method.getName() + "(" + method.getParameterCount() + ")");
                same(method.getName(), Arrays.stream(method.getParameterTypes()).allMatch(type -> type == int.class),
                        true);
            }
        }
        same("methods", new TreeSet<>(methods), new TreeSet<>(Arrays.asList(METHODS)));
        List<String> fields = new ArrayList<>();
        for (Field field : SlotBundler.class.getDeclaredFields()) {
            if (!Modifier.isPrivate(field.getModifiers())) {
                same(field.getName(), field.getModifiers(), Modifier.PUBLIC | Modifier.STATIC | Modifier.FINAL);
                fields.add(field.getName());
            }
        }
        same("fields", new TreeSet<>(fields), new TreeSet<>(Arrays.asList(CONSTANTS)));
        Constructor<?>[] constructors = SlotBundler.class.getDeclaredConstructors();
        same("constructors", constructors.length, 1);
        same("the constructor", constructors[0].getModifiers(), Modifier.PUBLIC);
        for (Class<?> inside : SlotBundler.class.getDeclaredClasses()) {
            same(inside.getName(), Modifier.isStatic(inside.getModifiers()), true);
            for (Method method : inside.getDeclaredMethods()) {
                String name = inside.getName() + "." + method.getName();
                same(name, method.getParameterCount() <= 7, true);
                same(name, methods.stream().anyMatch(face -> face.contains(" " + method.getName() + "(")), false);
            }
        }
    }

    private static void words() throws IOException {
        String text = Files.readString(SOURCE).replaceAll("(?s)/\\*.*?\\*/|//[^\\n]*", "");
        Matcher matcher = Pattern.compile(RULED_OUT).matcher(text);
        while (matcher.find()) {
            same("a word of the program", matcher.group(), "another one");
        }
    }

    private static void same(String title, Object got, Object want) {
        Calls.due(title + ": " + got + " and " + want + " are the same (1 is yes):", got.equals(want) ? 1 : 0, 1);
    }
}
