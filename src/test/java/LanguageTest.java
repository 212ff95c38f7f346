import java.lang.reflect.Executable;
import java.lang.reflect.Field;
import java.lang.reflect.Method;
import java.lang.reflect.Modifier;
import java.nio.file.Files;
import java.nio.file.Path;
import java.util.ArrayList;
import java.util.List;
import java.util.Set;
import java.util.TreeSet;
import java.util.regex.Matcher;
import java.util.regex.Pattern;

/** The rules of LANGUAGE.md that can be seen from the class and from its text. */
public final class LanguageTest {
    private static final String FACE = """
        int child(int,int); int of(int,int); int spot(int,int); int point(int,int); int need(int,int); int spin(int);
        int bell(); int row(int,int,int); int feed(int); int school(); int told(int); int pass(int); int on(int,int);
        int crowd(int,int); int turn(int); int see(int,int,int); int can(int,int); long odds(int,int,int,int);
        long mean(int,int); int plan(int,int); int ends(int); int book(int,int); int looked(); int judge(int,int);
        int image(); int undo(); int act(int,int,int); int trace(int); int taken(int,int); int count(int);
        int tape(int,int,int); int item(int,int,long); long read(int,int); int shift(int,int,int,int,int)
        """;
    private static int wrong;

    public static void main(String[] args) throws Exception {
        List<Class<?>> classes = new ArrayList<>(List.of(GlobeCorner.class.getDeclaredClasses()));
        classes.add(GlobeCorner.class);
        face();
        for (Class<?> c : classes) sizes(c);
        hold("at most twelve classes", classes.size() <= 12);
        text(Files.readString(Path.of("src/main/java/GlobeCorner.java")));
        System.out.println(wrong == 0 ? "the language is kept to" : wrong + " rules are broken");
        if (wrong > 0) System.exit(1);
    }

    private static void hold(String rule, boolean holds) {
        if (holds) return;
        wrong++;
        System.out.println("broken: " + rule);
    }

    private static void face() {
        hold("public and final", GlobeCorner.class.getModifiers() == (Modifier.PUBLIC | Modifier.FINAL));
        Set<String> due = new TreeSet<>();
        for (String call : FACE.split(";")) due.add(call.trim());
        Set<String> have = new TreeSet<>();
        for (Method m : GlobeCorner.class.getDeclaredMethods()) {
            if (Modifier.isPrivate(m.getModifiers())) continue;
            hold("public: " + m, m.getModifiers() == Modifier.PUBLIC);
            have.add(m.toString().replace("public ", "").replace("GlobeCorner.", ""));
        }
        hold("the methods of the document: " + have, have.equals(due));
        Set<String> constants = new TreeSet<>();
        for (Field f : GlobeCorner.class.getDeclaredFields()) {
            if (!Modifier.isPrivate(f.getModifiers())) constants.add(f.toString().replace("GlobeCorner.", ""));
        }
        String kind = "public static final int ";
        hold("the constants of the document: " + constants, constants.equals(new TreeSet<>(List.of(kind + "NONE",
            kind + "BAD", kind + "STATE", kind + "FULL", "public static final long NO"))));
        hold("one constructor", GlobeCorner.class.getDeclaredConstructors().length == 1);
        hold("it is public", GlobeCorner.class.getConstructors().length == 1);
    }

    private static void sizes(Class<?> c) {
        boolean inside = c != GlobeCorner.class;
        hold(c + " is static and not public", !inside
            || Modifier.isStatic(c.getModifiers()) && !Modifier.isPublic(c.getModifiers()));
        int fields = 0;
        for (Field f : c.getDeclaredFields()) {
            boolean isStatic = Modifier.isStatic(f.getModifiers());
            if (!isStatic) fields++;
            hold(f + " is final", !isStatic || Modifier.isFinal(f.getModifiers()));
        }
        hold(c + " has at most twenty fields", fields <= 20);
        List<Executable> all = new ArrayList<>(List.of(c.getDeclaredMethods()));
        all.addAll(List.of(c.getDeclaredConstructors()));
        for (Executable e : all) {
            hold(e + " takes at most seven", e.getParameterCount() <= 7);
            boolean open = !inside && Modifier.isPublic(e.getModifiers());
            hold(e + " bears no public name", open || !FACE.contains(" " + e.getName() + "("));
        }
    }

    private static void text(String source) {
        String bare = source.replaceAll("(?s)/\\*.*?\\*/", "").replaceAll("//[^\n]*", "")
            .replaceAll("\"[^\"\n]*\"", "\"\"");
        for (String word : new String[] {"throw", "throws", "try", "catch", "finally", "synchronized", "assert",
            "package", "protected", "var", "yield", "volatile", "native", "Object", "Thread", "Random", "static \\{"}) {
            hold("no " + word, !Pattern.compile("\\b" + word + "\\b").matcher(bare).find());
        }
        for (String sign : new String[] {"->", "::", "Exact(", "[][]", "System.out", "@"}) {
            hold("no " + sign, !bare.contains(sign));
        }
        Matcher imports = Pattern.compile("import ([^;]*);").matcher(bare);
        while (imports.find()) hold("import " + imports.group(1), imports.group(1).equals("java.util.Arrays"));
        Matcher calls = Pattern.compile("\\b(System|Arrays|Math|Integer|Long)\\.(\\w+)").matcher(bare);
        Set<String> known = Set.of("System.arraycopy", "Arrays.fill", "Math.max", "Math.min", "Integer.bitCount",
            "Long.MIN_VALUE");
        while (calls.find()) hold("the library has " + calls.group(), known.contains(calls.group()));
        hold("signs 1 to 127 alone", source.chars().allMatch(c -> c > 0 && c < 128));
        methodsAreShort(source.split("\n"));
    }

    private static void methodsAreShort(String[] lines) {
        Pattern head = Pattern.compile("( {4}| {8})\\w[\\w\\[\\] ]+\\(.*\\) \\{");
        for (int i = 0; i < lines.length; i++) {
            Matcher m = head.matcher(lines[i]);
            if (!m.matches()) continue;
            int end = i;
            while (end < lines.length && !lines[end].equals(m.group(1) + "}")) end++;
            hold("some sixty lines: " + lines[i].trim(), end - i < 60);
        }
    }
}
