import java.lang.reflect.Field;
import java.lang.reflect.Method;
import java.lang.reflect.Modifier;
import java.nio.file.Files;
import java.nio.file.Path;
import java.util.Arrays;
import java.util.TreeSet;
import java.util.regex.Pattern;

/** The public face, and the rules of LANGUAGE.md that a look at the source can tell. */
public final class FaceTest {
    private static final Check check = new Check("FaceTest");
    private static final String[] METHODS = {
        "int yard 4", "int ofPrisoner 2", "int law 1", "int lock 3", "int unlock 1", "int strike 3", "int eat 1",
        "int gap 2", "int cellOf 2", "int wide 2", "int with 2", "int meet 2", "int rests 0", "int apart 2",
        "int joined 2", "int pushed 3", "int game 1", "int knocks 3", "int walk 4", "int reading 3", "int back 1",
        "int struck 0", "int laws 0", "int stood 1", "long odds 4", "int sheet 3", "int lose 1", "int put 3",
        "long cell 3", "int copy 5", "int tell 1", "int visit 1", "int as 2", "int trace 0", "int fault 0",
        "int many 1"};

    public static void main(String[] args) throws Exception {
        constants();
        members();
        source();
        check.end();
    }

    private static void constants() {
        check.due("UNKNOWN", VoteWalls.UNKNOWN, -1);
        check.due("OUTSIDE", VoteWalls.OUTSIDE, -2);
        check.due("STATE", VoteWalls.STATE, -3);
        check.due("FULL", VoteWalls.FULL, -4);
        check.due("NONE", VoteWalls.NONE, -9);
        check.due("LOST", VoteWalls.LOST, Long.MIN_VALUE);
    }

    private static void members() {
        TreeSet<String> due = new TreeSet<>(Arrays.asList(METHODS));
        TreeSet<String> names = new TreeSet<>();
        TreeSet<String> hidden = new TreeSet<>();
        TreeSet<String> open = new TreeSet<>();
        for (Method m : VoteWalls.class.getDeclaredMethods()) {
            if (Modifier.isPublic(m.getModifiers())) {
                open.add(m.getReturnType().getName() + " " + m.getName() + " " + m.getParameterCount());
                names.add(m.getName());
                for (Class<?> given : m.getParameterTypes()) {
                    check.isTrue(m.getName() + " is given ints", given == int.class);
                }
            } else if (!m.isSynthetic()) {
                check.isTrue(m.getName() + " is private", Modifier.isPrivate(m.getModifiers()));
                hidden.add(m.getName());
            }
        }
        check.isTrue("the methods of the face: " + open, open.equals(due));
        for (Class<?> inside : VoteWalls.class.getDeclaredClasses()) {
            check.isTrue(inside + " is static", Modifier.isStatic(inside.getModifiers()));
            for (Method m : inside.getDeclaredMethods()) {
                hidden.add(m.getName());
            }
        }
        hidden.retainAll(names);
        check.isTrue("no other method bears a name of the face: " + hidden, hidden.isEmpty());
        int constants = 0;
        for (Field f : VoteWalls.class.getDeclaredFields()) {
            if (Modifier.isPublic(f.getModifiers())) {
                constants++;
            } else {
                check.isTrue(f.getName() + " is private", Modifier.isPrivate(f.getModifiers()));
            }
        }
        check.due("public constants", constants, 6);
        check.due("constructors", VoteWalls.class.getConstructors().length, 1);
        check.isTrue("final", Modifier.isFinal(VoteWalls.class.getModifiers()));
    }

    private static void source() throws Exception {
        String text = Files.readString(Path.of("src/main/java/VoteWalls.java"));
        String code = text.replaceAll("(?s)/\\*.*?\\*/", " ").replaceAll("//[^\n]*", " ");
        String[] words = {"throw", "throws", "try", "catch", "synchronized", "assert", "package", "Object", "var"};
        for (String word : words) {
            check.isTrue("no " + word, !Pattern.compile("\\b" + word + "\\b").matcher(code).find());
        }
        check.isTrue("no lambda", !code.contains("->"));
        check.isTrue("no method reference", !code.contains("::"));
        check.isTrue("no static block", !Pattern.compile("static\\s*\\{").matcher(code).find());
        check.isTrue("no loop without a bound", !Pattern.compile("while\\s*\\(true|for\\s*\\(;;").matcher(code).find());
        String rest = code.replaceAll("import java\\.util\\.(Arrays|ArrayList|List|Iterator);", "");
        check.isTrue("no other import", !rest.contains("import "));
    }
}
