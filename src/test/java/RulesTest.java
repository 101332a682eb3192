import java.lang.reflect.Constructor;
import java.lang.reflect.Field;
import java.lang.reflect.Method;
import java.lang.reflect.Modifier;
import java.nio.file.Files;
import java.nio.file.Path;
import java.util.ArrayList;
import java.util.Arrays;
import java.util.List;
import java.util.Set;
import java.util.TreeSet;
import java.util.regex.Matcher;
import java.util.regex.Pattern;

/** The face of the document and, of LANGUAGE.md, what a look at the class and its text can tell. */
public final class RulesTest {
    private static final Check CHECK = new Check();
    private static final List<String> FACE = List.of(
        "int feed(int,int,int,int,int)", "int end(int)", "int text(int,int)", "int fault(int)", "int border(int,int)",
        "int marks(int,int,int,boolean)", "int deed(int,int,int)", "int stop(int,int)",
        "int goose(int,int,int,int,int)", "int path(int,int,int,int,int)", "int state(int,int,int,int)",
        "int term(int,int,int)", "int pays(int,int)", "int even(int,int)", "int richest(int,int,int)",
        "int tar(int,int,int)", "int lame(int,int,int)", "int rest(int,int,int)", "int take(int,int,int,int)",
        "int seen(int,int,int)", "long fits(int,int)", "int told(int,int,int)", "int lacks(int,int,int)",
        "int who(int,int,int,int)", "int drawn(int,int,int,int)", "int alike(int,int,int)",
        "int span(int,int,int,boolean)", "int honest(int,int,int)", "int split(int,int,int,boolean)",
        "int two(int,int,int,int)", "int backs(int,int,int,boolean)", "int close(int,boolean)", "int near(int,int,int)",
        "int shift(int,int,boolean)", "int thrift(int)", "int count(int)", "boolean image(int)", "boolean again(int)");
    private static final String[] FORBIDDEN = {"\\btry\\b", "\\bcatch\\b", "\\bthrow\\b", "\\bthrows\\b",
        "\\bsynchronized\\b", "\\bassert\\b", "->", "::", "\\bvar\\b", "Exact\\(", "\\bSystem\\.(?!arraycopy)",
        "\\bObject\\b", "\\bthread\\b", "\\bRandom\\b", "\\bstatic\\s*\\{", "\\bprotected\\b", "\\bdouble\\b",
        "\\bfloat\\b", "\\bpackage\\b", "@", "M(AX|IN)_VALUE"};

    private static final Set<String> LIBRARY = Set.of("Arrays.fill", "System.arraycopy", "Integer.bitCount", "Math.abs",
        "Math.max", "Math.min");

    public static void main(String[] args) throws Exception {
        face();
        for (Class<?> inside : GooseBorder.class.getDeclaredClasses()) {
            inside(inside);
        }
        CHECK.due("some twelve classes", GooseBorder.class.getDeclaredClasses().length + 1 <= 12, true);
        source(Files.readString(Path.of(args[0], "src/main/java/GooseBorder.java")));
        CHECK.finish();
    }

    private static void face() {
        Set<String> found = new TreeSet<>();
        Set<String> names = new TreeSet<>();
        for (Method m : GooseBorder.class.getDeclaredMethods()) {
            StringBuilder s = new StringBuilder();
            for (Class<?> kind : m.getParameterTypes()) {
                s.append(s.length() > 0 ? "," : "").append(kind.getName());
            }
            if (Modifier.isPublic(m.getModifiers())) {
                found.add(m.getReturnType().getName() + " " + m.getName() + "(" + s + ")");
                names.add(m.getName());
            } else {
                CHECK.due(m.getName() + " is private", Modifier.isPrivate(m.getModifiers()), true);
            }
        }
        CHECK.due("the face: " + found, found.equals(new TreeSet<>(FACE)), true);
        for (Field f : GooseBorder.class.getDeclaredFields()) {
            boolean none = f.getName().equals("NONE") && Modifier.isPublic(f.getModifiers());
            CHECK.due(f.getName() + " is private", none || Modifier.isPrivate(f.getModifiers()), true);
        }
        Constructor<?>[] makers = GooseBorder.class.getDeclaredConstructors();
        CHECK.due("one constructor", makers.length == 1 && Modifier.isPublic(makers[0].getModifiers()), true);
        CHECK.due("final", Modifier.isFinal(GooseBorder.class.getModifiers()), true);
        List<Class<?>> classes = new ArrayList<>(Arrays.asList(GooseBorder.class.getDeclaredClasses()));
        classes.add(GooseBorder.class);
        for (Class<?> c : classes) {
            for (Method m : c.getDeclaredMethods()) {
                boolean ofFace = c == GooseBorder.class && Modifier.isPublic(m.getModifiers());
                CHECK.due(m + " bears a name of the face", !ofFace && names.contains(m.getName()), false);
            }
        }
    }

    private static void inside(Class<?> c) {
        int fields = 0;
        for (Field f : c.getDeclaredFields()) {
            boolean still = Modifier.isStatic(f.getModifiers());
            fields += still ? 0 : 1;
            CHECK.due(f + " is final, if static", !still || Modifier.isFinal(f.getModifiers()), true);
        }
        CHECK.due(c + " has few fields", fields <= 20, true);
        CHECK.due(c + " is static", Modifier.isStatic(c.getModifiers()), true);
        CHECK.due(c + " is not public", Modifier.isPublic(c.getModifiers()), false);
        for (Method m : c.getDeclaredMethods()) {
            CHECK.due(m + " has few parameters", m.getParameterCount() <= 7, true);
        }
    }

    /** Rule 4: of the library's static functions only some, and one import for them. */
    private static void library(String code) {
        Matcher called = Pattern.compile("\\b([A-Z]\\w*)\\.([a-z]\\w*)\\(").matcher(code);
        while (called.find()) {
            String name = called.group(1) + "." + called.group(2);
            boolean own = name.equals("Sharing.canShare");
            CHECK.due(name + " is of the library that may be used", own || LIBRARY.contains(name), true);
        }
        Matcher brought = Pattern.compile("(?m)^import (.*);").matcher(code);
        while (brought.find()) {
            CHECK.due("import of " + brought.group(1), brought.group(1).equals("java.util.Arrays"), true);
        }
    }

    private static void source(String text) {
        String code = text.replaceAll("(?s)/\\*.*?\\*/", "").replaceAll("//[^\n]*", "");
        for (String forbidden : FORBIDDEN) {
            Matcher m = Pattern.compile(forbidden).matcher(code);
            CHECK.due("'" + forbidden + "' stands in the source", m.find(), false);
        }
        library(code);
        for (int i = 0; i < text.length(); i++) {
            if (text.charAt(i) > 126) {
                CHECK.due("a sign above 126 at " + i, 1, 0);
            }
        }
        int start = 0;
        String[] lines = text.split("\n");
        for (int i = 0; i < lines.length; i++) {
            if (lines[i].matches("\\s+(@Override|(public|private|static|final|abstract|int|long|boolean|void|[A-Z]).*\\) \\{)")) {
                start = i;
            }
            if (lines[i].matches(" {4}( {4})?\\}")) {
                CHECK.due("the method up to line " + (i + 1) + " is short", i - start <= 60, true);
            }
        }
    }
}
