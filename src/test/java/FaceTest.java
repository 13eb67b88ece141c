import java.lang.management.ManagementFactory;
import java.lang.reflect.Constructor;
import java.lang.reflect.Field;
import java.lang.reflect.Method;
import java.lang.reflect.Modifier;
import java.nio.charset.StandardCharsets;
import java.nio.file.Files;
import java.nio.file.Path;
import java.util.Arrays;
import java.util.Set;
import java.util.TreeSet;
import java.util.regex.Matcher;
import java.util.regex.Pattern;

/** The document's face, some rules of LANGUAGE.md, and that no call makes an object. */
public final class FaceTest {
    private static final Check CHECK = new Check("FaceTest");

    private static final String[] METHODS = {
        "takeBook()", "layBook(int,int)", "print(int,int)", "turn()", "turnBack()", "shoot()",
        "scan(int)", "throwAway(int)", "setSuction(int)", "set(int,int)", "type(char)",
        "clearText()", "undo()", "keep()", "restore()", "leaf(int,int)", "page(int,int)",
        "picture(int,int)", "open(int)", "would(int)", "best()", "lacking(int)", "count(int)"};

    public static void main(String[] args) throws Exception {
        constants();
        face();
        classesInside();
        source(Files.readString(Path.of(args[0]), StandardCharsets.UTF_8));
        noObjectsByCalls();
        CHECK.end();
    }

    private static void constants() {
        CHECK.due("UNKNOWN", LeafTurner.UNKNOWN, -1);
        CHECK.due("BAD_VALUE", LeafTurner.BAD_VALUE, -2);
        CHECK.due("FULL", LeafTurner.FULL, -3);
        CHECK.due("NOT_POSSIBLE", LeafTurner.NOT_POSSIBLE, -4);
        CHECK.due("NONE", LeafTurner.NONE, -5);
    }

    private static void face() {
        Set<String> seen = new TreeSet<>();
        Set<String> names = new TreeSet<>();
        for (String method : METHODS) {
            names.add(method.substring(0, method.indexOf('(')));
        }
        for (Method method : LeafTurner.class.getDeclaredMethods()) {
            if (Modifier.isPrivate(method.getModifiers())) {
                CHECK.holds("a private name: " + method, !names.contains(method.getName()));
                continue;
            }
            CHECK.holds("public: " + method, Modifier.isPublic(method.getModifiers()));
            CHECK.holds("int: " + method, method.getReturnType() == int.class);
            seen.add(signature(method));
        }
        CHECK.holds("the methods " + seen, seen.equals(new TreeSet<>(Arrays.asList(METHODS))));
        Set<String> constants = new TreeSet<>();
        for (Field field : LeafTurner.class.getDeclaredFields()) {
            if (!Modifier.isPrivate(field.getModifiers())) {
                constants.add(field.getName());
                CHECK.holds("a constant: " + field, Modifier.isPublic(field.getModifiers())
                    && Modifier.isStatic(field.getModifiers()));
            }
            CHECK.holds("static is final: " + field, !Modifier.isStatic(field.getModifiers())
                || Modifier.isFinal(field.getModifiers()));
        }
        CHECK.holds("the constants " + constants, constants.equals(
            Set.of("UNKNOWN", "BAD_VALUE", "FULL", "NOT_POSSIBLE", "NONE")));
        Constructor<?>[] constructors = LeafTurner.class.getDeclaredConstructors();
        CHECK.due("constructors", constructors.length, 1);
        CHECK.holds("a public one", Modifier.isPublic(constructors[0].getModifiers()));
        CHECK.holds("final", Modifier.isFinal(LeafTurner.class.getModifiers()));
    }

    private static String signature(Method method) {
        StringBuilder text = new StringBuilder(method.getName()).append('(');
        for (Class<?> type : method.getParameterTypes()) {
            text.append(text.charAt(text.length() - 1) == '(' ? "" : ",").append(type.getName());
        }
        return text.append(')').toString();
    }

    private static void classesInside() {
        Class<?>[] inside = LeafTurner.class.getDeclaredClasses();
        CHECK.holds("at most twelve classes", inside.length < 12);
        for (Class<?> one : inside) {
            int modifiers = one.getModifiers();
            CHECK.holds("static: " + one, Modifier.isStatic(modifiers));
            CHECK.holds("not public: " + one, !Modifier.isPublic(modifiers)
                && !Modifier.isProtected(modifiers));
            CHECK.holds("at most twenty fields: " + one, one.getDeclaredFields().length <= 20);
        }
    }

    private static void source(String text) {
        for (int i = 0; i < text.length(); i++) {
            if (text.charAt(i) > 126) {
                CHECK.due("the sign at " + i, text.charAt(i), '?');
            }
        }
        String code = text.replaceAll("(?s)/\\*.*?\\*/", " ").replaceAll("//[^\n]*", " ");
        String[] forbidden = {"throw", "throws", "try", "catch", "finally", "synchronized",
            "assert", "instanceof", "transient", "volatile", "native", "System\\.(?!arraycopy)\\w+",
            "\\w+Exact", "package"};
        for (String word : forbidden) {
            CHECK.holds("without " + word, !Pattern.compile("\\b" + word + "\\b").matcher(code).find());
        }
        CHECK.holds("no lambda", !code.contains("->") && !code.contains("::"));
        Matcher imports = Pattern.compile("\\bimport ([^;]*);").matcher(code);
        while (imports.find()) {
            CHECK.holds("import " + imports.group(1), Set.of("java.util.Arrays",
                "java.util.ArrayList", "java.util.List").contains(imports.group(1)));
        }
        for (String line : text.split("\n")) {
            CHECK.holds("at most 100 signs: " + line, line.length() <= 100);
        }
    }

    /** All calls of a run live in one room, so rows are made in the constructor alone. */
    private static void noObjectsByCalls() {
        com.sun.management.ThreadMXBean threads =
            (com.sun.management.ThreadMXBean) ManagementFactory.getThreadMXBean();
        long thread = Thread.currentThread().getId();
        long sum = 0;
        LeafTurner[] all = new LeafTurner[40];
        for (int i = 0; i < all.length; i++) {
            all[i] = new LeafTurner();
        }
        sum += everyCall(new LeafTurner());
        threads.getThreadAllocatedBytes(thread);
        long before = threads.getThreadAllocatedBytes(thread);
        for (LeafTurner x : all) {
            sum += everyCall(x);
        }
        long made = threads.getThreadAllocatedBytes(thread) - before;
        CHECK.holds("calls make no objects, but they made " + made + " bytes " + sum % 2,
            made < 2000);
    }

    private static long everyCall(LeafTurner x) {
        long sum = x.layBook(30, 1);
        for (int i = 0; i < 6; i++) {
            sum += x.scan(10) + x.turn() + x.turnBack() + x.shoot() + x.throwAway(0);
            sum += x.setSuction(2 + i) + x.set(0, i) + x.set(1, i % 2) + x.print(3, i);
            sum += x.type('1') + x.takeBook() + x.clearText() + x.undo() + x.keep() + x.restore();
            sum += x.leaf(0, 0) + x.open(0) + x.would(i) + x.best() + x.lacking(i);
            for (int what = 0; what < 17; what++) {
                sum += x.page(3, what) + x.picture(0, what) + x.count(what);
            }
        }
        return sum;
    }
}
