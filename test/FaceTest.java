import java.io.IOException;
import java.lang.reflect.Constructor;
import java.lang.reflect.Field;
import java.lang.reflect.Method;
import java.lang.reflect.Modifier;
import java.nio.file.Files;
import java.nio.file.Path;
import java.util.ArrayList;
import java.util.Arrays;
import java.util.List;
import java.util.Set;
import java.util.TreeSet;
import java.util.regex.Matcher;
import java.util.regex.Pattern;

/** The face of the class, word by word, and the rules of LANGUAGE.md that a text shows. */
public final class FaceTest {
    private static final Check CHECK = new Check();
    private static final String[] FACE = {
        "int enter(int,int,int,int) IndexOutOfBoundsException,IllegalArgumentException,IllegalStateException",
        "int strike(int) IndexOutOfBoundsException,IllegalStateException",
        "boolean isAllowed(int,int,int) IndexOutOfBoundsException,IllegalArgumentException",
        "int pass(int) IllegalArgumentException,IllegalStateException",
        "int type(char) IllegalArgumentException,IllegalStateException",
        "int wipe() ",
        "int fault() ",
        "int rule() IllegalArgumentException,IllegalStateException",
        "int mend(int) IndexOutOfBoundsException,IllegalArgumentException",
        "int commands(int) IndexOutOfBoundsException",
        "int open(int,int,int,int) IndexOutOfBoundsException,IllegalArgumentException,IllegalStateException",
        "int close(int) IndexOutOfBoundsException,IllegalStateException",
        "int mark(int) IndexOutOfBoundsException,IllegalStateException",
        "int cast(int,int) IndexOutOfBoundsException,IllegalStateException",
        "int why(int) IndexOutOfBoundsException",
        "int read(int,int) IndexOutOfBoundsException",
        "void misread(int) IndexOutOfBoundsException,IllegalStateException",
        "int sample(int,int,int) IndexOutOfBoundsException,IllegalArgumentException,IllegalStateException",
        "int recount(int) IndexOutOfBoundsException",
        "int doubt(int) IndexOutOfBoundsException",
        "int winners(int) IndexOutOfBoundsException",
        "int winnersByHand(int) IndexOutOfBoundsException",
        "int tallies(int) IndexOutOfBoundsException",
        "int votes(int,int,int) IndexOutOfBoundsException",
        "int ties(int) IndexOutOfBoundsException",
        "int tied(int,int) IndexOutOfBoundsException",
        "int certify(int) IndexOutOfBoundsException,IllegalStateException",
        "int certified(int) IndexOutOfBoundsException",
        "int stale() "};
    private static final String[] BANNED = {
        "\\bimport\\b", "\\bpackage\\b", "->", "::", "\\bfinally\\b", "\\bsynchronized\\b", "\\bassert\\b",
        "\\bcatch\\b", "\\bException\\b", "\\bThrowable\\b", "\\bError\\b", "\\bSystem\\.(?!arraycopy)",
        "\\bMath\\.\\w*Exact", "\\bObject\\b", "\\bvar\\b", "@\\w", "\\bfloat\\b", "\\bdouble\\b",
        "\\bRandom\\b", "\\bThread\\b", "\\bnull\\b", "\\bString\\[", "\\bswitch\\b"};

    public static void main(String[] args) throws IOException {
        methods();
        fieldsAndConstructors();
        nestedClasses();
        text(Files.readString(Path.of("src/main/java/Ballotscript.java")));
        CHECK.end("FaceTest");
    }

    private static void is(String what, boolean so) {
        CHECK.same(what, 1, so ? 1 : 0);
    }

    private static String faceOf(Method method) {
        List<String> parameters = new ArrayList<>();
        for (Class<?> type : method.getParameterTypes()) {
            parameters.add(type.getSimpleName());
        }
        List<String> thrown = new ArrayList<>();
        for (Class<?> type : method.getExceptionTypes()) {
            thrown.add(type.getSimpleName());
        }
        return method.getReturnType().getSimpleName() + " " + method.getName() + "("
                + String.join(",", parameters) + ") " + String.join(",", thrown);
    }

    private static void methods() {
        Set<String> left = new TreeSet<>(Arrays.asList(FACE));
        Set<String> names = new TreeSet<>();
        for (Method method : Ballotscript.class.getDeclaredMethods()) {
            if (Modifier.isPublic(method.getModifiers())) {
                is("a method of the face: " + faceOf(method), left.remove(faceOf(method)));
                names.add(method.getName());
                is(method.getName() + " is no static one", !Modifier.isStatic(method.getModifiers()));
            }
        }
        is("methods that are missing: " + left, left.isEmpty());
        for (Method method : Ballotscript.class.getDeclaredMethods()) {
            if (!Modifier.isPublic(method.getModifiers()) && !method.isSynthetic()) {
                is(method.getName() + " is private", Modifier.isPrivate(method.getModifiers()));
                is(method.getName() + " bears a name of its own", !names.contains(method.getName()));
            }
        }
        for (Class<?> inside : Ballotscript.class.getDeclaredClasses()) {
            for (Method method : inside.getDeclaredMethods()) {
                is(inside.getSimpleName() + "." + method.getName() + " bears a name of its own",
                        !names.contains(method.getName()));
                is(method.getName() + " takes seven parameters at most", method.getParameterCount() <= 7);
            }
        }
    }

    private static void fieldsAndConstructors() {
        int modifiers = Ballotscript.class.getModifiers();
        is("public and final", Modifier.isPublic(modifiers) && Modifier.isFinal(modifiers));
        Set<String> shown = new TreeSet<>();
        for (Field field : Ballotscript.class.getDeclaredFields()) {
            if (Modifier.isPublic(field.getModifiers())) {
                shown.add(field.getName());
                is(field.getName() + " is a constant", Modifier.isStatic(field.getModifiers())
                        && Modifier.isFinal(field.getModifiers()) && field.getType() == int.class);
            } else {
                is(field.getName() + " is private", Modifier.isPrivate(field.getModifiers()));
            }
        }
        is("the constants: " + shown, shown.equals(Set.of("NONE", "COUNTS", "LATER", "BARRED")));
        CHECK.same("NONE", -1, Ballotscript.NONE);
        CHECK.same("COUNTS", 0, Ballotscript.COUNTS);
        CHECK.same("LATER", 1, Ballotscript.LATER);
        CHECK.same("BARRED", 2, Ballotscript.BARRED);
        Constructor<?>[] constructors = Ballotscript.class.getDeclaredConstructors();
        is("one constructor", constructors.length == 1 && constructors[0].getParameterCount() == 0
                && Modifier.isPublic(constructors[0].getModifiers()));
    }

    private static void nestedClasses() {
        Class<?>[] inside = Ballotscript.class.getDeclaredClasses();
        is("some twelve classes", inside.length < 12);
        List<Class<?>> all = new ArrayList<>(Arrays.asList(inside));
        all.add(Ballotscript.class);
        for (Class<?> one : all) {
            int fields = 0;
            for (Field field : one.getDeclaredFields()) {
                if (Modifier.isStatic(field.getModifiers())) {
                    is(field + " is final", Modifier.isFinal(field.getModifiers()));
                } else {
                    fields++;
                }
            }
            is(one.getSimpleName() + " has some twenty fields", fields <= 20);
        }
        for (Class<?> one : inside) {
            int modifiers = one.getModifiers();
            is(one.getSimpleName() + " is static", Modifier.isStatic(modifiers));
            is(one.getSimpleName() + " is inside", !Modifier.isPublic(modifiers) && !Modifier.isProtected(modifiers));
        }
    }

    // Short methods, and one that calls itself is a private static one.
    private static void methodsOf(String[] lines) {
        Pattern declared = Pattern.compile("( {4}| {8})(?!(?:if|for|while|do|switch|else|return|throw)\\b)"
                + "((?:\\w+ )*)(\\w+)\\([^;=]*");
        int found = 0;
        for (int start = 0; start < lines.length; start++) {
            Matcher method = declared.matcher(lines[start]);
            if (!method.matches()) {
                continue;
            }
            found++;
            int end = start + 1;
            while (end < lines.length && !lines[end].equals(method.group(1) + "}")) {
                end++;
            }
            is("the method in line " + (start + 1) + " is short", end - start <= 60);
            String body = String.join("\n", Arrays.copyOfRange(lines, start + 1, end));
            boolean callsItself = Pattern.compile("(?<![\\w.])" + method.group(3) + "\\(").matcher(body).find();
            is(method.group(3) + " calls itself and is private and static",
                    !callsItself || method.group(2).startsWith("private static "));
        }
        is("the methods were found", found > 70);
    }

    private static void text(String source) {
        String code = source.replaceAll("(?s)/\\*.*?\\*/", "").replaceAll("//[^\n]*", "");
        for (String banned : BANNED) {
            Matcher found = Pattern.compile(banned).matcher(code);
            is("nothing of " + banned, !found.find());
        }
        Matcher library = Pattern.compile("\\b(Integer|Math|Long|Arrays)\\.(\\w+)").matcher(code);
        while (library.find()) {
            is(library.group() + " is of the library", Set.of("bitCount", "max").contains(library.group(2)));
        }
        Matcher thrown = Pattern.compile("throw (.*)").matcher(code);
        while (thrown.find()) {
            is(thrown.group(), thrown.group(1).matches("new (IllegalState|IllegalArgument|IndexOutOfBounds)"
                    + "Exception\\(\"[^\"]*\"\\);"));
        }
        String[] lines = source.split("\n");
        methodsOf(lines);
        for (int line = 0; line < lines.length; line++) {
            is("line " + (line + 1) + " is of the signs 1 to 127", lines[line].matches("\\p{ASCII}*"));
        }
    }
}
