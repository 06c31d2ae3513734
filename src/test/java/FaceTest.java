import java.lang.reflect.Constructor;
import java.lang.reflect.Field;
import java.lang.reflect.Method;
import java.lang.reflect.Modifier;
import java.nio.file.Files;
import java.nio.file.Path;
import java.util.ArrayList;
import java.util.List;
import java.util.TreeSet;
import java.util.regex.Matcher;
import java.util.regex.Pattern;

/** The document's face, no more and no less, and those rules of LANGUAGE.md that can be seen from outside. */
public final class FaceTest {
    private static final String[] FACE = {
        "int feed(long, long, long)", "int supper()", "int night()", "int guest(int, int)", "int wheel(int, int)", "int run(int, int)",
        "boolean hire(int, int)", "int minute()", "boolean undo()", "int judged(int)", "int when()", "int cook()", "int order(int)",
        "int later(int, int)", "int nights(int)", "int delay(int)", "int spare(int)", "int best()", "int excuse(int)",
        "int meets(int, int)", "int near(int)", "int with(int)", "int boy(int)", "int held()", "int fair()",
        "boolean see(int, int, boolean)", "int who()", "int ask()", "int chance(int, int, int)", "int rests(int, int, int, int)",
        "int years(int, int, int)", "boolean mark(int, boolean)", "int count(int)"};

    private static int wrong = 0;

    private static void check(boolean right, String what) {
        if (!right) {
            wrong++;
            System.out.println("not so: " + what);
        }
    }

    public static void main(String[] args) throws Exception {
        face();
        inside();
        source(Files.readString(Path.of(args.length > 0 ? args[0] : "src/main/java/LastCook.java")));
        System.out.println(wrong + " rules broken");
        if (wrong != 0) {
            System.exit(1);
        }
    }

    private static void face() throws Exception {
        check(Modifier.isPublic(LastCook.class.getModifiers()) && Modifier.isFinal(LastCook.class.getModifiers()), "public final");
        TreeSet<String> due = new TreeSet<>(List.of(FACE));
        TreeSet<String> got = new TreeSet<>();
        TreeSet<String> names = new TreeSet<>();
        for (Method m : LastCook.class.getDeclaredMethods()) {
            if (Modifier.isPublic(m.getModifiers())) {
                got.add(signature(m));
                names.add(m.getName());
                check(!Modifier.isStatic(m.getModifiers()), m.getName() + " is not static");
            } else {
                check(Modifier.isPrivate(m.getModifiers()), m.getName() + " is private");
            }
        }
        check(got.equals(due), "the face is " + due + " but is " + got);
        for (Method m : LastCook.class.getDeclaredMethods()) {
            check(Modifier.isPublic(m.getModifiers()) || !names.contains(m.getName()), m.getName() + " is a name of the face");
        }
        for (Class<?> c : LastCook.class.getDeclaredClasses()) {
            for (Method m : c.getDeclaredMethods()) {
                check(!names.contains(m.getName()), c + "." + m.getName() + " is a name of the face");
            }
        }
        for (Field f : LastCook.class.getDeclaredFields()) {
            boolean none = f.getName().equals("NONE");
            check(none == Modifier.isPublic(f.getModifiers()), f.getName() + " public if it is NONE");
            check(none || Modifier.isPrivate(f.getModifiers()), f.getName() + " private");
        }
        Constructor<?>[] made = LastCook.class.getDeclaredConstructors();
        check(made.length == 1 && Modifier.isPublic(made[0].getModifiers()) && made[0].getParameterCount() == 0, "one constructor");
        Class<?>[] thrown = LastCook.class.getMethod("rests", int.class, int.class, int.class, int.class).getExceptionTypes();
        check(thrown.length == 1 && thrown[0] == java.util.NoSuchElementException.class, "rests throws NoSuchElementException");
    }

    private static String signature(Method m) {
        StringBuilder s = new StringBuilder(m.getReturnType() + " " + m.getName() + "(");
        for (Class<?> p : m.getParameterTypes()) {
            s.append(s.charAt(s.length() - 1) == '(' ? "" : ", ").append(p);
        }
        return s.append(')').toString();
    }

    private static void inside() {
        Class<?>[] inside = LastCook.class.getDeclaredClasses();
        check(inside.length <= 11, "twelve classes at most");
        List<Class<?>> all = new ArrayList<>(List.of(inside));
        all.add(LastCook.class);
        for (Class<?> c : all) {
            int fields = 0;
            for (Field f : c.getDeclaredFields()) {
                if (Modifier.isStatic(f.getModifiers())) {
                    check(Modifier.isFinal(f.getModifiers()), f + " is final");
                } else {
                    fields++;
                }
            }
            check(fields <= 20, c + " has 20 fields at most");
            check(c == LastCook.class || Modifier.isStatic(c.getModifiers()), c + " is static");
            for (Method m : c.getDeclaredMethods()) {
                check(m.getParameterCount() <= 7, m + " takes seven at most");
            }
        }
    }

    private static void source(String text) {
        String code = text.replaceAll("(?s)/\\*.*?\\*/", "").replaceAll("//[^\n]*", "");
        String[] ruledOut = {"->", "::", "\\bcatch\\b", "\\btry\\b", "\\bfinally\\b", "\\bsynchronized\\b", "\\bassert\\b", "\\bstatic \\{",
            "\\bgetMessage\\b", "\\bSystem\\.(?!arraycopy)", "\\bhashCode\\b", "\\btoString\\b", "Exact\\b", "\\bRandom\\b", "\\bpackage\\b",
            "\"\\s*\\+", "\\+\\s*\"", "\\bfloat\\b", "\\bdouble\\b", "\\bvar\\b", "\\bnew ArrayList\\b", "\\bString\\.format\\b"};
        for (String r : ruledOut) {
            check(!Pattern.compile(r).matcher(code).find(), "no " + r + " in the program");
        }
        Matcher imports = Pattern.compile("import ([^;]+);").matcher(code);
        while (imports.find()) {
            check(imports.group(1).equals("java.util.NoSuchElementException"), "no import of " + imports.group(1));
        }
        Matcher thrown = Pattern.compile("throw ([^;]+);").matcher(code);
        while (thrown.find()) {
            check(thrown.group(1).startsWith("new NoSuchElementException(\""), "no throw " + thrown.group(1));
        }
        for (int i = 0; i < text.length(); i++) {
            check(text.charAt(i) < 127, "plain signs only, at " + i);
        }
        methodLengths(code);
    }

    private static void methodLengths(String code) {
        String[] lines = code.split("\n");
        int began = -1;
        String indent = "";
        for (int i = 0; i < lines.length; i++) {
            Matcher m = Pattern.compile("^( {4}| {8})[a-z][^=;]*\\) (throws \\w+ )?\\{$").matcher(lines[i]);
            if (began < 0 && m.find()) {
                began = i;
                indent = m.group(1);
            } else if (began >= 0 && lines[i].equals(indent + "}")) {
                check(i - began <= 60, "sixty lines at most: " + lines[began].trim());
                began = -1;
            }
        }
    }
}
