import java.io.IOException;
import java.lang.reflect.Method;
import java.lang.reflect.Modifier;
import java.nio.file.Files;
import java.nio.file.Path;
import java.util.ArrayList;
import java.util.List;
import java.util.Set;
import java.util.TreeSet;
import java.util.regex.Matcher;
import java.util.regex.Pattern;
import java.util.stream.Stream;

/** What README.md says is so: the answers in its examples, the calls that it lists, the tests that it lists. */
public final class ReadmeTest {
    private static final Pattern MADE = Pattern.compile("CarbonCopies land = new CarbonCopies\\(\\);");
    private static final Pattern TEXT = Pattern.compile("String text = \"([^\"]*)\";");
    private static final Pattern LETTERS = Pattern.compile("land\\.set\\((\\d), i, text\\.charAt\\(i\\)\\);");
    private static final Pattern CALL = Pattern.compile("land\\.(\\w+)\\((.*)\\); *// (-?\\d+): .*");
    private static final Pattern LOOP = Pattern.compile("for \\(int i = 0; i < text\\.length\\(\\); i\\+\\+\\) \\{|\\}");
    private static final Pattern LISTED = Pattern.compile("`(\\w+)\\(([^)`]*)\\)`");
    private static final Pattern TEST = Pattern.compile("\\| (\\w+Test) \\|.*");

    public static void main(String[] args) throws IOException {
        List<String> lines = Files.readAllLines(Path.of("README.md"));
        examples(lines);
        Check.due("README.md lists every call, and no other", listedCalls(lines).equals(calls()) ? 1 : 0, 1);
        Check.due("README.md lists every test, and no other", listedTests(lines).equals(tests()) ? 1 : 0, 1);
        Check.end("ReadmeTest");
    }

    private static void examples(List<String> lines) {
        List<String> told = new ArrayList<>();
        String text = "";
        boolean within = false;
        int calls = 0;
        for (String line : lines) {
            String code = line.trim();
            if (code.startsWith("```")) {
                within = code.equals("```java");
                continue;
            }
            if (!within) {
                continue;
            }
            Matcher letters = LETTERS.matcher(code);
            Matcher call = CALL.matcher(code);
            Matcher newText = TEXT.matcher(code);
            if (MADE.matcher(code).matches()) {
                told.clear();
            } else if (newText.matches()) {
                text = newText.group(1);
            } else if (letters.matches()) {
                for (int i = 0; i < text.length(); i++) {
                    told.add("set(" + letters.group(1) + ", " + i + ", " + (int) text.charAt(i) + ")");
                }
            } else if (call.matches()) {
                told.add(call.group(1) + "(" + asNumbers(call.group(2), text) + ")");
                Run.due("README.md: " + code, Long.parseLong(call.group(3)), told.toArray(new String[0]));
                calls++;
            } else {
                Check.due("README.md, a line of an example that this test can read: " + code,
                    LOOP.matcher(code).matches() ? 1 : 0, 1);
            }
        }
        Check.due("README.md has examples", calls > 10 ? 1 : 0, 1);
    }

    /** A length of the text and a letter are numbers for Run. */
    private static String asNumbers(String args, String text) {
        String lengths = args.replace("text.length()", "" + text.length());
        Matcher letter = Pattern.compile("'(.)'").matcher(lengths);
        return letter.replaceAll(found -> "" + (int) found.group(1).charAt(0));
    }

    private static Set<String> listedCalls(List<String> lines) {
        Set<String> all = new TreeSet<>();
        for (String line : lines) {
            Matcher listed = LISTED.matcher(line);
            while (line.startsWith("| ") && listed.find()) {
                String args = listed.group(2);
                all.add(listed.group(1) + " " + (args.isEmpty() ? 0 : args.split(", ").length));
            }
        }
        return all;
    }

    private static Set<String> calls() {
        Set<String> all = new TreeSet<>();
        for (Method method : CarbonCopies.class.getDeclaredMethods()) {
            if (Modifier.isPublic(method.getModifiers())) {
                all.add(method.getName() + " " + method.getParameterCount());
            }
        }
        return all;
    }

    private static Set<String> listedTests(List<String> lines) {
        Set<String> all = new TreeSet<>();
        for (String line : lines) {
            Matcher test = TEST.matcher(line);
            if (test.matches()) {
                all.add(test.group(1));
            }
        }
        return all;
    }

    private static Set<String> tests() throws IOException {
        Set<String> all = new TreeSet<>();
        try (Stream<Path> files = Files.list(Path.of("src", "test", "java"))) {
            files.map(file -> file.getFileName().toString()).filter(name -> name.endsWith("Test.java"))
                .forEach(name -> all.add(name.substring(0, name.length() - ".java".length())));
        }
        return all;
    }
}
