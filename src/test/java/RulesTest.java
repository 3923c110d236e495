import java.lang.reflect.Constructor;
import java.lang.reflect.Field;
import java.lang.reflect.Method;
import java.lang.reflect.Modifier;
import java.nio.charset.StandardCharsets;
import java.nio.file.Files;
import java.nio.file.Path;
import java.util.ArrayList;
import java.util.HashSet;
import java.util.List;
import java.util.Set;
import java.util.TreeSet;
import java.util.regex.Matcher;
import java.util.regex.Pattern;

/** The face as the document has it, and what of LANGUAGE.md can be seen from the source; run from the project's folder. */
public final class RulesTest {
    static final String[] FACE = {"int feed(int)", "int complex()", "int fault()", "int undo()", "int weigh(int,int,int)",
        "int edge(int,int,int)", "int face(int)", "int drop(int,int)", "int put(int,int,int)", "int bound(int,int,int)",
        "int drawn(int,int)", "int cell(int,int,int)", "int as(int,int,int)", "int table(int,int,int)",
        "int near(int,int,int)", "int rank(int,int)", "int holes(int,int)", "int twist(int,int)", "int chain(int,int)",
        "int ends(int,int)", "int whole(int,int)", "long part(int,int,int,int)", "long length(int,int,int)",
        "int share(int,int)", "long trees(int,int)", "long minors(int)", "int image(int)", "int restore(int)",
        "int count(int)"};
    static int wrong = 0;

    static void due(String what, Object got, Object want) {
        if (!got.equals(want)) {
            wrong++;
            System.out.println(what + ": " + got + ", due is " + want);
        }
    }

    public static void main(String[] args) throws Exception {
        faceIsAsTold();
        classesInside();
        String source = Files.readString(Path.of("src/main/java/ChainParts.java"), StandardCharsets.US_ASCII);
        String code = source.replaceAll("(?s)/\\*.*?\\*/", "").replaceAll("//[^\n]*", "");
        for (String word : new String[] {"import ", "package ", "->", "::", "catch", "throw", "finally", "assert",
            "synchronized", "\"", "instanceof", "protected", "static {", "double", "System.out", "Exact(", "while (true)"}) {
            due("what the rules leave out: " + word, code.contains(word), false);
        }
        methodsAreShort(code);
        System.out.println(wrong == 0 ? "the face and the rules are kept" : wrong + " are not kept");
        if (wrong != 0) {
            System.exit(1);
        }
    }

    static void faceIsAsTold() throws Exception {
        Set<String> open = new TreeSet<>();
        Set<String> publicNames = new HashSet<>();
        List<Method> hidden = new ArrayList<>();
        for (Method m : ChainParts.class.getDeclaredMethods()) {
            if (Modifier.isPrivate(m.getModifiers())) {
                hidden.add(m);
                continue;
            }
            due(m + " is public and of objects", Modifier.isPublic(m.getModifiers()) && !Modifier.isStatic(m.getModifiers()), true);
            StringBuilder b = new StringBuilder(m.getReturnType() + " " + m.getName() + "(");
            for (int i = 0; i < m.getParameterCount(); i++) {
                b.append(i > 0 ? "," : "").append(m.getParameterTypes()[i]);
            }
            open.add(b.append(")").toString());
            publicNames.add(m.getName());
        }
        due("methods", open, new TreeSet<>(List.of(FACE)));
        for (Class<?> c : ChainParts.class.getDeclaredClasses()) {
            hidden.addAll(List.of(c.getDeclaredMethods()));
        }
        for (Method m : hidden) {
            due("a name of the face: " + m, publicNames.contains(m.getName()), false);
        }
        Set<String> fields = new TreeSet<>();
        for (Field f : ChainParts.class.getDeclaredFields()) {
            if (!Modifier.isPrivate(f.getModifiers())) {
                due(f + " is a constant", Modifier.isPublic(f.getModifiers()) && Modifier.isStatic(f.getModifiers())
                    && Modifier.isFinal(f.getModifiers()), true);
                fields.add(f.getName() + " " + f.getInt(null));
            }
            due(f + " is final if it is static", Modifier.isStatic(f.getModifiers()) && !Modifier.isFinal(f.getModifiers()), false);
        }
        due("constants", fields, new TreeSet<>(List.of("NONE -1000000", "BAD -1000001", "STATE -1000002", "FULL -1000003")));
        Constructor<?>[] made = ChainParts.class.getDeclaredConstructors();
        due("constructors", made.length + " " + made[0], "1 public ChainParts()");
        due("public and final", Modifier.isPublic(ChainParts.class.getModifiers())
            && Modifier.isFinal(ChainParts.class.getModifiers()), true);
    }

    static void classesInside() {
        Class<?>[] inside = ChainParts.class.getDeclaredClasses();
        due("twelve classes at most", inside.length < 12, true);
        for (Class<?> c : inside) {
            due(c + " is private and static", Modifier.isPrivate(c.getModifiers()) && Modifier.isStatic(c.getModifiers()), true);
            int fields = 0;
            for (Field f : c.getDeclaredFields()) {
                fields += Modifier.isStatic(f.getModifiers()) ? 0 : 1;
            }
            due(c + " has twenty fields at most", fields <= 20, true);
        }
    }

    /** Methods begin and end at the same depth of white space. */
    static void methodsAreShort(String code) {
        Matcher m = Pattern.compile("(?m)^( +)[a-z][^;=\n]*\\([^;\n]*\\) \\{$").matcher(code);
        while (m.find()) {
            int end = code.indexOf("\n" + m.group(1) + "}", m.start());
            long lines = code.substring(m.start(), end).chars().filter(c -> c == '\n').count();
            due("lines of " + m.group().trim(), lines <= 60, true);
        }
    }
}
