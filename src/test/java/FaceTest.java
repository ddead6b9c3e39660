import java.io.IOException;
import java.lang.reflect.Constructor;
import java.lang.reflect.Field;
import java.lang.reflect.Method;
import java.lang.reflect.Modifier;
import java.nio.file.Files;
import java.nio.file.Path;
import java.util.Arrays;
import java.util.Set;
import java.util.TreeSet;
import java.util.regex.Matcher;
import java.util.regex.Pattern;

/** The public face as the document has it, and what of LANGUAGE.md can be seen from outside. */
public final class FaceTest {
    private static final String INDEX = "IndexOutOfBoundsException";
    private static final String ARGUMENT = "IllegalArgumentException";
    private static final String[] FACE = {
        "read 3 " + INDEX + " " + ARGUMENT, "lost 3 " + INDEX + " " + ARGUMENT, "at 3 " + INDEX,
        "shift 4 " + INDEX + " " + ARGUMENT, "jump 3 " + INDEX, "joined 2 " + INDEX, "end 1 " + ARGUMENT,
        "measure 6 " + INDEX + " " + ARGUMENT, "told 3 " + INDEX + " " + ARGUMENT, "pieces 1 " + INDEX,
        "piece 3 " + INDEX + " " + ARGUMENT, "baseline 2 " + INDEX, "value 2 " + INDEX, "feed 5",
        "rule 1 " + ARGUMENT, "fault 0", "train 2 " + ARGUMENT, "range 2 " + INDEX, "index 1",
        "storm 2 " + ARGUMENT, "quiet 1", "publish 0", "changed 2 " + INDEX, "published 2 " + INDEX, "count 1"};
    // patterns, each of something that a rule of LANGUAGE.md rules out wherever it stands
    private static final String[] FORBIDDEN = {"\\bfinally\\b", "\\bsynchronized\\b", "\\bassert\\b", "Exact\\(", "::",
        "\\)\\s*->", "\\bgetMessage\\b", "\\bSystem\\.(?!arraycopy\\b)", "\\bRandom\\b", "\\bThread\\b", "\\bhashCode\\b",
        "\\bObject\\b", "\\bstatic\\s*\\{"};
    private static final Set<String> IMPORTS = Set.of("java.util.Arrays", "java.util.ArrayList", "java.util.List",
        "java.util.Iterator", "java.util.NoSuchElementException");

    public static void main(String[] args) throws IOException {
        constants();
        face();
        nestedClasses();
        source();
        Check.finish();
    }

    private static void constants() {
        Check.due("NONE", -1, NeedleHouse.NONE);
        Check.due("LOST", -2000000000, NeedleHouse.LOST);
    }

    private static void face() {
        Class<?> house = NeedleHouse.class;
        holds("public and final", Modifier.isPublic(house.getModifiers()) && Modifier.isFinal(house.getModifiers()));
        Set<String> seen = new TreeSet<>();
        for (Method method : house.getDeclaredMethods()) {
            if (!Modifier.isPrivate(method.getModifiers())) {
                StringBuilder line = new StringBuilder(method.getName() + " " + method.getParameterCount());
                for (Class<?> thrown : method.getExceptionTypes()) {
                    line.append(' ').append(thrown.getSimpleName());
                }
                seen.add(line.toString());
                holds(method + " is public, of ints", method.getReturnType() == int.class
                        && Modifier.isPublic(method.getModifiers()) && !Modifier.isStatic(method.getModifiers())
                        && Arrays.stream(method.getParameterTypes()).allMatch(type -> type == int.class));
            }
        }
        holds("the face is " + seen, seen.equals(new TreeSet<>(Arrays.asList(FACE))));
        for (Field field : house.getDeclaredFields()) {
            boolean told = field.getName().equals("NONE") || field.getName().equals("LOST");
            holds(field + " is private, but for NONE and LOST", told == !Modifier.isPrivate(field.getModifiers()));
            holds(field + " is final, if static", !Modifier.isStatic(field.getModifiers())
                    || Modifier.isFinal(field.getModifiers()));
        }
        Constructor<?>[] made = house.getDeclaredConstructors();
        holds("one constructor", made.length == 1 && made[0].getParameterCount() == 0
                && Modifier.isPublic(made[0].getModifiers()));
    }

    private static void nestedClasses() {
        Class<?>[] nested = NeedleHouse.class.getDeclaredClasses();
        holds("at most twelve classes", nested.length < 12);
        sizes(NeedleHouse.class);
        for (Class<?> one : nested) {
            holds(one + " is static and not public", Modifier.isStatic(one.getModifiers())
                    && !Modifier.isPublic(one.getModifiers()) && !Modifier.isProtected(one.getModifiers()));
            sizes(one);
        }
    }

    private static void sizes(Class<?> one) {
        holds(one + " has at most twenty fields", Arrays.stream(one.getDeclaredFields())
                .filter(field -> !Modifier.isStatic(field.getModifiers())).count() <= 20);
        for (Method method : one.getDeclaredMethods()) {
            boolean ofFace = Arrays.stream(FACE).anyMatch(line -> line.startsWith(method.getName() + " "));
            holds(method + " has a name of its own", !Modifier.isPrivate(method.getModifiers()) || !ofFace);
            holds(method + " takes at most seven", method.getParameterCount() <= 7);
        }
    }

    private static void source() throws IOException {
        String text = Files.readString(Path.of("src/main/java/NeedleHouse.java"));
        String code = text.replaceAll("(?s)/\\*.*?\\*/", "").replaceAll("//[^\n]*", "");
        for (String word : FORBIDDEN) {
            holds("no " + word, !Pattern.compile(word).matcher(code).find());
        }
        Matcher imports = Pattern.compile("import ([^;]*);").matcher(code);
        while (imports.find()) {
            holds("import " + imports.group(1), IMPORTS.contains(imports.group(1)));
        }
        int start = 0;
        String[] lines = text.split("\n");
        for (int i = 0; i < lines.length; i++) {
            if (lines[i].matches(" {4}( {4})?[a-zA-Z].*\\{")) {
                start = i;
            }
            if (lines[i].matches(" {4}( {4})?\\}") && !lines[start].contains(" class ")) {
                holds("the method at line " + (start + 1) + " is short", i - start < 60);
            }
        }
    }

    private static void holds(String what, boolean good) {
        Check.due(what + ":", 1, good ? 1 : 0);
    }
}
