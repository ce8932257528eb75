import java.io.IOException;
import java.lang.reflect.Constructor;
import java.lang.reflect.Field;
import java.lang.reflect.Method;
import java.lang.reflect.Modifier;
import java.nio.file.Files;
import java.nio.file.Path;
import java.util.Arrays;
import java.util.Set;
import java.util.TreeSet;
import java.util.regex.Matcher;
import java.util.regex.Pattern;

/** The face is the document's and no more, and the source keeps to the rules that can be seen in its text. */
public final class FaceTest {
    private static final Check C = new Check();
    private static final String[] FACE = {
        "boolean rings(int)", "boolean ring(int, int, int, int)", "boolean dust(int, int, int)",
        "boolean star(int, int, int)", "boolean seed(int)", "int feed(long, long, long)", "int laws()",
        "boolean end(int)", "int steps(int)", "int has(int, int)", "int look(int, int)", "int made(int, int)",
        "long parts(int)", "int asked(int, int, int, int)", "int sure(int, int, int)", "int empty(int, int)",
        "int runs(int, int, int)", "int back()", "int told(int, int)", "int forget()", "int fits(int)",
        "int barred(int, int)", "boolean mark(int, boolean)", "int count(int)"};

    public static void main(String[] args) throws IOException {
        face();
        nested();
        source(Files.readString(Path.of("src/main/java/RingDisk.java")));
        C.end("FaceTest");
    }

    private static void face() {
        Class<?> c = RingDisk.class;
        C.due("public and final", Modifier.isPublic(c.getModifiers()) && Modifier.isFinal(c.getModifiers()), true);
        Set<String> open = new TreeSet<>();
        Set<String> names = new TreeSet<>();
        for (Method m : c.getDeclaredMethods()) {
            if (!Modifier.isPrivate(m.getModifiers()) && !m.isSynthetic()) {
                String types = Arrays.toString(Arrays.stream(m.getParameterTypes()).map(Class::getName).toArray());
                open.add(m.getReturnType() + " " + m.getName() + "(" + types.substring(1, types.length() - 1) + ")");
                names.add(m.getName());
                C.due(m + " is public, not static", m.getModifiers() & ~Modifier.FINAL, Modifier.PUBLIC);
            }
        }
        C.due("the methods are the document's: " + open, open.equals(new TreeSet<>(Arrays.asList(FACE))), true);
        for (Field f : c.getDeclaredFields()) {
            boolean isNone = f.getName().equals("NONE");
            C.due(f + " is open", !Modifier.isPrivate(f.getModifiers()), isNone);
            C.due(f + ": static is final", !Modifier.isStatic(f.getModifiers())
                    || Modifier.isFinal(f.getModifiers()), true);
        }
        Constructor<?>[] made = c.getDeclaredConstructors();
        C.due("one constructor", made.length, 1);
        C.due("without parameters", made[0].getParameterCount(), 0);
        for (Class<?> in : c.getDeclaredClasses()) {
            for (Method m : in.getDeclaredMethods()) {
                C.due(m + " bears a public name", names.contains(m.getName()), false);
            }
        }
        for (Method m : c.getDeclaredMethods()) {
            C.due(m + " bears a public name", Modifier.isPrivate(m.getModifiers()) && names.contains(m.getName()),
                    false);
        }
    }

    private static void nested() {
        C.due("some twelve classes", RingDisk.class.getDeclaredClasses().length <= 11, true);
        for (Class<?> in : RingDisk.class.getDeclaredClasses()) {
            C.due(in + " is static", Modifier.isStatic(in.getModifiers()), true);
            C.due(in + " is not public", Modifier.isPublic(in.getModifiers()), false);
            int fields = 0;
            for (Field f : in.getDeclaredFields()) {
                C.due(f + ": static is final", !Modifier.isStatic(f.getModifiers())
                        || Modifier.isFinal(f.getModifiers()), true);
                fields += Modifier.isStatic(f.getModifiers()) ? 0 : 1;
            }
            C.due(in + " has some twenty fields", fields <= 20, true);
            for (Method m : in.getDeclaredMethods()) {
                C.due(m + " takes at most seven", m.getParameterCount() <= 7, true);
            }
        }
    }

    private static void source(String text) {
        Set<String> imports = new TreeSet<>();
        Matcher m = Pattern.compile("import ([a-zA-Z.]+);").matcher(text);
        while (m.find()) {
            imports.add(m.group(1));
        }
        C.due("imports " + imports, imports.equals(Set.of("java.util.NoSuchElementException")), true);
        String code = text.replaceAll("(?s)/\\*.*?\\*/", "").replaceAll("//.*", "");
        String[] ruledOut = {"\\btry\\b", "\\bcatch\\b", "\\bfinally\\b", "\\bsynchronized\\b", "\\bassert\\b", "->",
            "::", "\\bdouble\\b", "\\bfloat\\b", "Exact\\b", "\\bnative\\b", "\\btoString\\b", "\\bhashCode\\b",
            "\\bordinal\\b", "\\bObject\\b", "\\bThread\\b", "System\\.(?!arraycopy)", "\\bprotected\\b",
            "static \\{", "\\bpackage\\b", "\\bthis\\b", "throw new (?!NoSuchElementException)"};
        for (String none : ruledOut) {
            C.due("the source has " + none, Pattern.compile(none).matcher(code).find(), false);
        }
        C.due("signs of the source", text.chars().allMatch(c -> c == 10 || c >= 32 && c <= 126), true);
        longMethods(code);
    }

    private static void longMethods(String code) {
        String[] lines = code.split("\n");
        for (int i = 0; i < lines.length; i++) {
            if (lines[i].matches(" +[a-zA-Z\\[\\] ]+\\(.*\\).*\\{") && !lines[i].matches(" +(if|for|while|switch) .*")) {
                String close = lines[i].replaceAll("\\S.*", "") + "}";
                int to = i;
                while (to < lines.length - 1 && !lines[to].equals(close)) {
                    to++;
                }
                C.due("some sixty lines: " + lines[i].trim(), to - i <= 60, true);
            }
        }
    }
}
