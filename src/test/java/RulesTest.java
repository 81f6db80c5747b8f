import java.lang.reflect.Constructor;
import java.lang.reflect.Field;
import java.lang.reflect.Method;
import java.lang.reflect.Modifier;
import java.nio.charset.StandardCharsets;
import java.nio.file.Files;
import java.nio.file.Path;
import java.util.Arrays;
import java.util.List;
import java.util.TreeSet;
import java.util.regex.Matcher;
import java.util.regex.Pattern;

/** The face of the class, and the rules of LANGUAGE.md that can be seen from outside or from its text. */
public final class RulesTest {
    private static final List<String> FACE = List.of("tell(int,int,int,int)", "feed(int,int,int,int,int)", "end(int)",
        "tables()", "fault()", "late(int)", "read(int)", "mark()", "fall()", "rows(int)", "row(int,int,int)",
        "out(int,int)", "host(int,boolean)", "owner(int)", "owns(int)", "count(int)", "status()");
    private static final Path PROGRAM = Path.of("src/main/java/TableStreams.java");

    private RulesTest() {
    }

    public static void main(String[] args) throws Exception {
        face();
        classesInside();
        words(withoutComments(Files.readString(PROGRAM, StandardCharsets.ISO_8859_1)));
        Check.finish();
    }

    private static void face() {
        Class<?> c = TableStreams.class;
        Check.due("class is public, final, alone", c.getModifiers() == (Modifier.PUBLIC | Modifier.FINAL) ? 1 : 0, 1);
        TreeSet<String> open = new TreeSet<>();
        TreeSet<String> hidden = new TreeSet<>();
        for (Method m : c.getDeclaredMethods()) {
            if (Modifier.isPrivate(m.getModifiers())) {
                hidden.add(m.getName());
                continue;
            }
            Check.due(m + " is public int", Modifier.isPublic(m.getModifiers()) && m.getReturnType() == int.class ? 1 : 0, 1);
            open.add(m.getName() + Arrays.toString(m.getParameterTypes()).replace('[', '(').replace(']', ')').replace(" ", ""));
        }
        Check.due("the methods", open.toString(), new TreeSet<>(FACE).toString());
        for (Field f : c.getDeclaredFields()) {
            if (!Modifier.isPrivate(f.getModifiers())) {
                Check.due("a field that is not private", f.toString(), "public static final int TableStreams.NONE");
            }
        }
        for (Constructor<?> k : c.getDeclaredConstructors()) {
            Check.due("the constructor", k.toString(), "public TableStreams()");
        }
        for (String name : hidden) {
            Check.due(name + " is a name of the face", isOfFace(name) ? 1 : 0, 0);
        }
    }

    private static boolean isOfFace(String name) {
        return FACE.stream().anyMatch(m -> m.startsWith(name + "("));
    }

    private static void classesInside() {
        Class<?>[] inside = TableStreams.class.getDeclaredClasses();
        Check.due("at most twelve classes", inside.length + 1 <= 12 ? 1 : 0, 1);
        for (Class<?> c : inside) {
            int how = c.getModifiers();
            Check.due(c + " is static", Modifier.isStatic(how) ? 1 : 0, 1);
            Check.due(c + " is hidden", Modifier.isPublic(how) || Modifier.isProtected(how) ? 1 : 0, 0);
            for (Method m : c.getDeclaredMethods()) {
                Check.due(m + " bears a name of the face", isOfFace(m.getName()) ? 1 : 0, 0);
                Check.due(m + " takes at most seven", m.getParameterCount() <= 7 ? 1 : 0, 1);
            }
            int fields = 0;
            for (Field f : c.getDeclaredFields()) {
                if (Modifier.isStatic(f.getModifiers())) {
                    Check.due(f + " is final", Modifier.isFinal(f.getModifiers()) ? 1 : 0, 1);
                } else {
                    fields++;
                }
            }
            Check.due(c + " has at most twenty fields", fields <= 20 ? 1 : 0, 1);
        }
    }

    private static String withoutComments(String text) {
        return text.replaceAll("(?s)/\\*.*?\\*/", "").replaceAll("//[^\n]*", "").replaceAll("\"[^\"\n]*\"", "\"\"");
    }

    private static void words(String text) {
        String[] ruledOut = {"\\bthrow", "\\btry\\b", "\\bcatch\\b", "\\bsynchronized\\b", "\\bassert\\b", "->", "::",
            "Exact\\b", "\\bpackage\\b", "\\bSystem\\.(?!arraycopy)", "\\bhashCode\\b", "\\btoString\\b", "\\bvar\\b",
            "\\bstatic \\{", "\"\" \\+|\\+ \"\"", "while \\(true\\)", "for \\(;;", "\\bObject\\b", "\\bThread"};
        for (String word : ruledOut) {
            Check.due("the program has " + word, Pattern.compile(word).matcher(text).find() ? 1 : 0, 0);
        }
        Matcher imports = Pattern.compile("import ([^;]*);").matcher(text);
        while (imports.find()) {
            Check.due("an import", imports.group(1), "java.util.Arrays");
        }
        methodsAreShort(text);
    }

    private static void methodsAreShort(String text) {
        int begun = -1;
        String indent = "";
        String[] lines = text.split("\n", -1);
        for (int i = 0; i < lines.length; i++) {
            Matcher head = Pattern.compile("^( {4}| {8})[a-zA-Z].*\\) \\{$").matcher(lines[i]);
            if (head.find()) {
                begun = i;
                indent = head.group(1);
            } else if (begun >= 0 && lines[i].equals(indent + "}")) {
                Check.due("the method of line " + (begun + 1) + " is short", i - begun <= 60 ? 1 : 0, 1);
                begun = -1;
            }
        }
    }
}
