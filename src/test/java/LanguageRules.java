import java.io.IOException;
import java.lang.reflect.Constructor;
import java.lang.reflect.Field;
import java.lang.reflect.Method;
import java.lang.reflect.Modifier;
import java.nio.file.Files;
import java.nio.file.Path;
import java.util.Set;
import java.util.TreeSet;
import java.util.regex.Matcher;
import java.util.regex.Pattern;

/** The face of the class, and those rules of LANGUAGE.md that can be read off the file. */
public final class LanguageRules {
    private static final Path SOURCE = Path.of("src/main/java/GiftRing.java");
    private static final Set<String> FACE = Set.of(
        "public int feed(int,int,int,int,int)", "public int custom(int)", "public boolean islands(int)",
        "public int man(int)", "public boolean partners(int,int)", "public int treasure(int,int,int)",
        "public int give(int,int,int)", "public int season()", "public boolean dies(int,int)",
        "public boolean lost(int)", "public int known(int,int)", "public int way(int,int)",
        "public int closings(int)", "public int closing(int)", "public int soonest(int,int)",
        "public int through(int,int,int)", "public int look(int,int)", "public int told(int,int)",
        "public int debt(int,int)", "public int quarrel(int,int)", "public int count(int)");
    private static final Set<String> LIBRARY = Set.of("Arrays", "Math", "Integer", "System", "String");

    private static final Set<Class<?>> STATIC_TYPES = Set.of(int.class, long.class, boolean.class, char.class,
        String.class, int[].class, long[].class, char[].class, byte[].class);

    private static int wrong = 0;

    private static void must(int rule, String what, boolean holds) {
        if (!holds) {
            wrong++;
            System.out.println("rule " + rule + ": " + what);
        }
    }

    private static void face() throws NoSuchFieldException {
        Class<?> ring = GiftRing.class;
        must(1, "public and final", Modifier.isPublic(ring.getModifiers()) && Modifier.isFinal(ring.getModifiers()));
        Set<String> found = new TreeSet<>();
        Set<String> names = new TreeSet<>();
        for (Method method : ring.getDeclaredMethods()) {
            if (Modifier.isPublic(method.getModifiers())) {
                found.add(method.toString().replace("GiftRing.", ""));
                names.add(method.getName());
            }
        }
        must(1, "the methods are " + found, found.equals(FACE));
        for (Method method : ring.getDeclaredMethods()) {
            boolean hidden = Modifier.isPrivate(method.getModifiers());
            must(1, method + " is not of the face", hidden || Modifier.isPublic(method.getModifiers()));
            must(1, method + " bears a public name", !hidden || !names.contains(method.getName()));
        }
        for (Constructor<?> made : ring.getDeclaredConstructors()) {
            must(1, made + " is not of the face", made.toString().equals("public GiftRing()"));
        }
        for (Field field : ring.getDeclaredFields()) {
            must(1, field + " is not of the face",
                Modifier.isPrivate(field.getModifiers()) || field.getName().equals("NONE"));
        }
        must(1, "NONE is public", Modifier.isPublic(ring.getField("NONE").getModifiers()));
    }

    private static void classesInside() {
        Class<?>[] inside = GiftRing.class.getDeclaredClasses();
        must(11, "at most twelve classes", inside.length < 12);
        for (Class<?> it : inside) {
            must(2, it + " is static", Modifier.isStatic(it.getModifiers()));
            must(1, it + " is hidden", !Modifier.isPublic(it.getModifiers()) && !Modifier.isProtected(it.getModifiers()));
            fieldsAndMethods(it);
        }
        fieldsAndMethods(GiftRing.class);
    }

    private static void fieldsAndMethods(Class<?> it) {
        int fields = 0;
        for (Field field : it.getDeclaredFields()) {
            boolean shared = Modifier.isStatic(field.getModifiers());
            must(5, field + " is final", !shared || Modifier.isFinal(field.getModifiers()));
            must(5, field + " is of no type for a static one", !shared || STATIC_TYPES.contains(field.getType()));
            must(3, field + " is of no type of the rules", isOfTheRules(field.getType()));
            fields += shared ? 0 : 1;
        }
        must(11, it + " has " + fields + " fields", fields <= 20);
        for (Method method : it.getDeclaredMethods()) {
            must(11, method + " takes too much", method.getParameterCount() <= 7);
            boolean ofTheFace = FACE.stream().anyMatch(line -> line.contains(" " + method.getName() + "("));
            must(1, method + " bears a public name", it == GiftRing.class || !ofTheFace);
        }
    }

    private static boolean isOfTheRules(Class<?> type) {
        if (!type.isArray()) {
            return type.isPrimitive() || type == String.class || type.getDeclaringClass() == GiftRing.class;
        }
        Class<?> part = type.getComponentType();
        boolean numbersOfTwo = part.isArray() && part.getComponentType().isPrimitive();
        return numbersOfTwo || !part.isArray() && isOfTheRules(part);
    }

    private static void words(String source) {
        String code = source.replaceAll("(?s)/\\*.*?\\*/", "").replaceAll("//[^\n]*", "")
            .replaceAll("\"[^\"\n]*\"", "\"\"").replaceAll("'[^'\n]*'", "' '");
        Matcher banned = Pattern.compile("\\b(throw|throws|try|catch|synchronized|assert|package|native|volatile|"
            + "transient|var|hashCode|toString|equals|Object|Random|Thread|Iterator|protected)\\b|->|::|Exact\\b").matcher(code);
        while (banned.find()) {
            must(6, "'" + banned.group() + "' is in the file", false);
        }
        Matcher called = Pattern.compile("\\b(Arrays|Math|Integer|System|Long|String)\\s*\\.\\s*(\\w+)").matcher(code);
        Set<String> listed = Set.of("Arrays.fill", "Math.abs", "Math.min", "Math.max", "Integer.bitCount",
            "System.arraycopy");
        while (called.find()) {
            must(4, called.group() + " is not listed", listed.contains(called.group()));
        }
        Matcher brought = Pattern.compile("(?m)^import (.*);").matcher(code);
        while (brought.find()) {
            must(4, "import of " + brought.group(1), brought.group(1).equals("java.util.Arrays"));
        }
        Matcher types = Pattern.compile("\\b(" + String.join("|", GiftRing.class.getSimpleName(), "[A-Z][a-z]\\w*") + ")\\b")
            .matcher(code);
        Set<String> own = new TreeSet<>(LIBRARY);
        own.add("GiftRing");
        for (Class<?> it : GiftRing.class.getDeclaredClasses()) {
            own.add(it.getSimpleName());
        }
        while (types.find()) {
            must(3, types.group() + " is no type of the rules", own.contains(types.group()));
        }
    }

    private static void lengths(String source) {
        String[] lines = source.split("\n");
        int start = 0;
        for (int i = 0; i < lines.length; i++) {
            if (lines[i].matches("( {4}| {8})(?!if|for|while|switch)[A-Za-z].*\\) \\{")) {
                start = i;
            }
            if (lines[i].matches("( {4}| {8})\\}")) {
                must(11, "a long method at line " + (start + 1), i - start <= 60);
            }
            must(3, "line " + (i + 1) + " has odd characters", lines[i].matches("[ -~]*"));
        }
    }

    public static void main(String[] args) throws IOException, NoSuchFieldException {
        String source = Files.readString(SOURCE);
        face();
        classesInside();
        words(source);
        lengths(source);
        System.out.println(wrong == 0 ? "the rules hold" : wrong + " rules are broken");
        if (wrong != 0) {
            System.exit(1);
        }
    }
}
