import java.io.IOException;
import java.lang.reflect.Constructor;
import java.lang.reflect.Field;
import java.lang.reflect.Method;
import java.lang.reflect.Modifier;
import java.nio.file.Files;
import java.nio.file.Path;
import java.util.ArrayList;
import java.util.Arrays;
import java.util.List;
import java.util.Set;
import java.util.TreeSet;
import java.util.regex.Matcher;
import java.util.regex.Pattern;

/** The rules of LANGUAGE.md, as far as a look at the text and at the compiled classes can tell them. */
public final class RulesTest {
    private static final Path SOURCE = Path.of("src/main/java/WindowsLookedOut.java");
    private static final String[] FACE = {
        "int row(int, int, int)", "int set(int, int, long)", "int copy(int, int, int, int, int)",
        "long element(int, int)", "int show(int, int)", "int holds(int)", "int says(int, int)",
        "int house(int, boolean)", "int pane(int, int, int, int)", "int walker(int, int)",
        "int put(int, int, int)", "int reach(int)", "int paneOf(int, int)", "int walkerOf(int, int)",
        "int town(int)", "int fault()", "int seen(int, int)", "int looks(int, int)", "int all()",
        "int turn(int, int)", "int way(int, int, int)", "int cover(int)", "int sole()", "int where(int, int)",
        "int ask(int)", "int fresh(int)", "int housed(int)", "int meet(int, int, int)",
        "int judge(int, int, int)", "int behind(int, int, int, int)", "int done(int, int, int)",
        "int days(int)", "int seed(int)", "int act(int, int, int)", "int trace(int)", "int image()",
        "int restore()", "int status(int)",
    };
    /** Words that the rules leave out, but for those that only the compiled class could show. */
    private static final String[] NO_WORDS = {
        "throw", "throws", "try", "catch", "finally", "synchronized", "assert", "package", "protected",
        "volatile", "transient", "native", "strictfp", "yield", "hashCode", "toString", "Object",
        "System\\.(?!arraycopy)\\w+",
        "\\w+Exact", "Thread", "Random", "Scanner", "File", "Map", "Set", "Stream",
    };
    private static final Pattern METHOD =
        Pattern.compile("^( {4}| {8})(?!.*\\b(class|return|for|if|while|switch|else)\\b)\\w[^=;]*\\) \\{$");
    private static int wrong = 0;

    public static void main(String[] args) throws IOException {
        String code = withoutCommentsAndTexts(Files.readString(SOURCE));
        members(face());
        words(code);
        methods(code);
        System.out.println("RulesTest: " + wrong + " rules broken");
        if (wrong != 0) {
            System.exit(1);
        }
    }

    private static void must(boolean is, String rule) {
        if (!is) {
            wrong++;
            System.out.println(rule);
        }
    }

    private static String withoutCommentsAndTexts(String source) {
        return source.replaceAll("(?s)/\\*.*?\\*/", "").replaceAll("//.*", "").replaceAll("\"[^\"]*\"", "\"\"");
    }

    private static Set<String> face() {
        Class<?> c = WindowsLookedOut.class;
        int kind = c.getModifiers();
        must(Modifier.isPublic(kind) && Modifier.isFinal(kind), "1: the class is public, final");
        Set<String> due = new TreeSet<>(Arrays.asList(FACE));
        Set<String> are = new TreeSet<>();
        Set<String> names = new TreeSet<>();
        for (Method m : c.getDeclaredMethods()) {
            if (Modifier.isPublic(m.getModifiers())) {
                List<String> types = new ArrayList<>();
                for (Class<?> type : m.getParameterTypes()) {
                    types.add(type.getName());
                }
                are.add(m.getReturnType() + " " + m.getName() + "(" + String.join(", ", types) + ")");
                names.add(m.getName());
            }
        }
        must(are.equals(due), "1: the face is " + are);
        for (Method m : c.getDeclaredMethods()) {
            int mods = m.getModifiers();
            must(Modifier.isPublic(mods) || Modifier.isPrivate(mods) && !names.contains(m.getName()),
                "1: the method " + m);
        }
        Constructor<?>[] made = c.getDeclaredConstructors();
        must(made.length == 1 && Modifier.isPublic(made[0].getModifiers()) && made[0].getParameterCount() == 0,
            "1: the constructor");
        for (Field f : c.getDeclaredFields()) {
            must(Modifier.isPrivate(f.getModifiers()) || f.getName().equals("NONE"), "1: the field " + f);
        }
        return names;
    }

    private static void members(Set<String> face) {
        List<Class<?>> classes = new ArrayList<>(List.of(WindowsLookedOut.class.getDeclaredClasses()));
        classes.add(WindowsLookedOut.class);
        must(classes.size() <= 12, "11: so many classes: " + classes.size());
        for (Class<?> c : classes) {
            must(c == WindowsLookedOut.class || Modifier.isStatic(c.getModifiers()), "2: not static: " + c);
            int own = 0;
            for (Field f : c.getDeclaredFields()) {
                boolean isStatic = Modifier.isStatic(f.getModifiers());
                must(!isStatic || Modifier.isFinal(f.getModifiers()), "5: static, not final: " + f);
                must(!f.isSynthetic(), "2: hidden field " + f);
                own += isStatic ? 0 : 1;
            }
            must(own <= 20, "11: so many fields in " + c + ": " + own);
            for (Method m : c.getDeclaredMethods()) {
                must(m.getParameterCount() <= 7, "11: so many parameters: " + m);
                must(!m.isSynthetic(), "2: hidden method " + m);
                must(c == WindowsLookedOut.class || !face.contains(m.getName()), "1: a name of the face: " + m);
            }
        }
    }

    private static void words(String code) {
        for (String word : NO_WORDS) {
            Matcher m = Pattern.compile("\\b" + word + "\\b").matcher(code);
            must(!m.find(), "not in the rules' part of Java: " + word);
        }
        must(!code.contains("->") && !code.contains("::"), "2: a lambda or a method reference");
        must(!code.contains("\" +") && !code.contains("+ \""), "10: texts joined by +");
        must(!Pattern.compile("(?m)^\\s*static\\s*\\{").matcher(code).find(), "5: a static block");
        must(!code.contains("import "), "4: an import");
        for (int i = 0; i < code.length(); i++) {
            must(code.charAt(i) < 128, "3: the sign " + (int) code.charAt(i));
        }
    }

    /** Methods stand four or eight spaces in, and end where their indent comes back. */
    private static void methods(String code) {
        String[] lines = code.split("\n");
        for (int i = 0; i < lines.length; i++) {
            Matcher m = METHOD.matcher(lines[i]);
            if (m.find()) {
                int end = i;
                while (!lines[end].equals(m.group(1) + "}")) {
                    end++;
                }
                must(end - i <= 60, "11: " + (end - i) + " lines: " + lines[i]);
            }
        }
    }
}
