import java.lang.reflect.Field;
import java.lang.reflect.Method;
import java.lang.reflect.Modifier;
import java.nio.charset.StandardCharsets;
import java.nio.file.Files;
import java.nio.file.Path;
import java.util.regex.Matcher;
import java.util.regex.Pattern;

/** README.md says what is so: its example, call by call, and each call and constant; run from the project's folder. */
public final class ReadmeTest {
    private static final Pattern TAPE = Pattern.compile("for \\(char c : \"([^\"]*)\"\\.toCharArray\\(\\)\\)");
    private static final Pattern CALL = Pattern.compile("x\\.(\\w+)\\(([-0-9, ]*)\\);\\s*// (-?[0-9]+|[A-Z]+)\\b");

    public static void main(String[] args) throws ReflectiveOperationException {
        Caller.runAll(ReadmeTest.class);
    }

    static String page() throws Exception {
        return Files.readString(Path.of("README.md"), StandardCharsets.US_ASCII);
    }

    static String example() throws Exception {
        String page = page();
        int from = page.indexOf("```java");
        int to = page.indexOf("```", from + 3);
        return from < 0 || to < 0 ? "" : page.substring(from, to);
    }

    static long number(String answer) throws ReflectiveOperationException {
        return Character.isLetter(answer.charAt(0)) ? ChainParts.class.getField(answer).getInt(null) : Long.parseLong(answer);
    }

    @Caller.Says("README.md says how an object is made and called")
    static void theExample() throws Exception {
        Matcher tape = TAPE.matcher(example());
        Caller.same("a text is fed", tape.find(), true);
        Caller o = new Caller().tape(tape.group(1));
        int many = 0;
        for (String line : example().split("\n")) {
            Matcher call = CALL.matcher(line);
            if (call.find()) {
                o.is((call.group(1) + " " + call.group(2).replace(",", "")).trim(), number(call.group(3)));
                many++;
            } else {
                Caller.same("a call whose answer is told: " + line, line.contains("//"), false);
            }
        }
        Caller.same("calls of the example", many > 5, true);
    }

    @Caller.Says("README.md names each call, with as many numbers as it takes")
    static void eachCall() throws Exception {
        for (Method m : ChainParts.class.getDeclaredMethods()) {
            if (Modifier.isPublic(m.getModifiers())) {
                int more = Math.max(m.getParameterCount() - 1, 0);
                String numbers = m.getParameterCount() == 0 ? "" : "\\w+" + ", \\w+".repeat(more);
                Caller.same(m.getName(), Pattern.compile("`" + m.getName() + "\\(" + numbers + "\\)`").matcher(page()).find(), true);
            }
        }
    }

    @Caller.Says("README.md says what a refusal answers, and for how many calls an object is used")
    static void eachConstant() throws Exception {
        for (Field f : ChainParts.class.getDeclaredFields()) {
            if (Modifier.isPublic(f.getModifiers())) {
                Pattern told = Pattern.compile("`" + f.getName() + "`[ (|]+" + f.getInt(null) + "\\b");
                Caller.same(f.getName(), told.matcher(page()).find(), true);
            }
        }
        Caller.same("at most 512 calls", page().contains("at most 512 calls"), true);
        Caller.same("how to run the tests", page().contains("bash .ci/run"), true);
    }
}
