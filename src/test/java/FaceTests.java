import java.lang.reflect.Constructor;
import java.lang.reflect.Field;
import java.lang.reflect.Method;
import java.lang.reflect.Modifier;
import java.nio.file.Files;
import java.nio.file.Path;
import java.util.Set;
import java.util.TreeSet;
import java.util.regex.Matcher;
import java.util.regex.Pattern;

/** The face of the class, and those rules of ../shared/LANGUAGE.md that can be seen in its text. */
public final class FaceTests {
    private static final String FACE = "back/0 best/1 bound/1 chain/2 core/2 costs/1 count/1 fault/0 fill/0 forget/0 keep/0 "
        + "kinds/1 lay/0 line/3 put/3 rename/2 runs/2 seen/3 soonest/2 take/1 undo/0 why/1 wipe/0 wrap/3 write/1";
    private static final Pattern METHOD = Pattern.compile(
        "(?m)^ +(?:(?:public|private|static|final) )*(?:int|long|boolean|void|[A-Z]\\w*) (\\w+)\\(([^)]*)\\) \\{$");

    public static void main(String[] args) throws Exception {
        Check.part("the face");
        face();
        Check.part("LANGUAGE.md");
        String source = bare(Files.readString(Path.of("src/main/java/CoreTests.java")));
        words(source);
        methods(source);
        classes();
        Check.end();
    }

    private static void face() {
        Class<?> type = CoreTests.class;
        Check.holds("public and final", Modifier.isPublic(type.getModifiers()) && Modifier.isFinal(type.getModifiers()));
        Set<String> calls = new TreeSet<>();
        for (Method m : type.getDeclaredMethods()) {
            if (Modifier.isPrivate(m.getModifiers()) || m.isSynthetic()) continue;
            boolean so = Modifier.isPublic(m.getModifiers()) && !Modifier.isStatic(m.getModifiers()) && m.getReturnType() == int.class;
            for (Class<?> p : m.getParameterTypes()) so &= p == int.class;
            Check.holds(m.getName() + " as the document has it", so);
            calls.add(m.getName() + "/" + m.getParameterCount());
        }
        Check.holds("the calls " + calls, String.join(" ", calls).equals(FACE));
        for (Constructor<?> c : type.getDeclaredConstructors()) {
            Check.holds("one constructor", Modifier.isPublic(c.getModifiers()) && c.getParameterCount() == 0);
        }
        Set<String> constants = new TreeSet<>();
        for (Field f : type.getDeclaredFields()) if (!Modifier.isPrivate(f.getModifiers())) constants.add(f.getName());
        Check.holds("the constants " + constants, constants.equals(Set.of("BAD", "FULL", "NO", "NONE")));
        for (Class<?> inner : type.getDeclaredClasses()) {
            Check.holds(inner.getName() + " is static", Modifier.isStatic(inner.getModifiers()) && !Modifier.isPublic(inner.getModifiers()));
        }
    }

    /** The source without comments and what stands between quotes. */
    private static String bare(String source) {
        return source.replaceAll("(?s)/\\*.*?\\*/", "").replaceAll("//[^\n]*", "").replaceAll("\"[^\"\n]*\"", "\"\"");
    }

    private static void words(String source) {
        String banned = "throw throws try catch synchronized assert import package protected volatile transient native "
            + "hashCode toString equals var yield sealed permits instanceof Object System.out";
        for (String word : banned.split(" ")) {
            Check.holds("no " + word, !Pattern.compile("\\b" + Pattern.quote(word) + "\\b").matcher(source).find());
        }
        for (String sign : "-> :: @".split(" ")) Check.holds("no " + sign, !source.contains(sign));
        Check.holds("no Exact", !source.contains("Exact("));
        Matcher shared = Pattern.compile("\\bstatic (?!final|class)[\\w\\[\\]]+ \\w+ *[=;]").matcher(source);
        Check.holds("no static that changes", !shared.find());
        for (String line : source.split("\n")) {
            boolean field = line.matches(" +(private )?(static )?final .*") || line.matches(" +(rows|trial|bounds) = .*");
            Check.holds("made by a field or a constructor alone: " + line, field || !line.matches(".*\\bnew\\b.*"));
        }
        for (int i = 0; i < source.length(); i++) Check.holds("a sign of 1 to 127", source.charAt(i) < 128);
    }

    private static void methods(String source) {
        String[] lines = source.split("\n");
        Matcher m = METHOD.matcher(source);
        while (m.find()) {
            String name = m.group(1);
            int first = source.substring(0, m.start()).split("\n", -1).length - 1;
            String indent = lines[first].replaceAll("\\S.*", "");
            int last = first;
            while (last < lines.length && !lines[last].equals(indent + "}")) last++;
            Check.holds(name + " is short", last - first < 60);
            Check.holds(name + " has at most seven parameters", m.group(2).split(",").length <= 7);
            boolean named = FACE.matches(".*\\b" + name + "/.*");
            Check.holds(name + " bears no public name", !named || lines[first].startsWith("    public "));
        }
    }

    private static void classes() {
        Class<?>[] inner = CoreTests.class.getDeclaredClasses();
        Check.holds("at most twelve classes", inner.length <= 11);
        for (Class<?> type : inner) Check.holds(type.getName() + " has few fields", type.getDeclaredFields().length <= 20);
        int fields = 0;
        for (Field f : CoreTests.class.getDeclaredFields()) if (!Modifier.isStatic(f.getModifiers())) fields++;
        Check.holds("few fields", fields <= 20);
    }
}
