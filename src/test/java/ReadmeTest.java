import java.io.IOException;
import java.nio.file.Files;
import java.nio.file.Path;
import java.util.List;
import java.util.Set;
import java.util.TreeSet;
import java.util.regex.Matcher;
import java.util.regex.Pattern;

/** README.md tells every method of the face with what it throws, and its example answers what it says. */
public final class ReadmeTest {
    private static final Pattern METHOD = Pattern.compile("(?m)^- `(\\w+ \\w+)\\(([^)]*)\\)`:((?:.+\\R)+?)(?=- |\\R)");
    private static final Pattern EXCEPTION = Pattern.compile("\\b\\w+Exception\\b");
    private static final Pattern CALL = Pattern.compile("register\\.(\\w+\\(.*\\));\\s+// (.*)");

    public static void main(String[] args) throws IOException {
        String readme = Files.readString(Path.of("README.md"));
        tellsTheFace(readme);
        answersAsTheExampleSays(readme);
    }

    private static void tellsTheFace(String readme) {
        Set<String> told = new TreeSet<>();
        Matcher method = METHOD.matcher(readme);
        while (method.find()) {
            String types = method.group(2).replaceAll("(\\w+) \\w+", "$1");
            told.add(method.group(1) + "(" + types + ") throws " + exceptions(method.group(3)));
        }
        Set<String> face = new TreeSet<>(List.of(FaceTest.FACE));
        if (!told.equals(face)) {
            System.out.println("README.md tells " + told + ", due are " + face);
            System.exit(1);
        }
    }

    private static String exceptions(String text) {
        return String.join(", ", EXCEPTION.matcher(text).results().map(found -> found.group()).distinct().toList());
    }

    private static void answersAsTheExampleSays(String readme) {
        int start = readme.indexOf("```java\nQuotaRegister register = new QuotaRegister();\n");
        if (start < 0) {
            System.out.println("README.md has no example");
            System.exit(1);
        }
        String example = readme.substring(start, readme.indexOf("\n```", start));
        StringBuilder rows = new StringBuilder();
        example.lines().filter(line -> line.startsWith("register.")).forEach(line -> rows.append(row(line)).append('\n'));
        Runs runs = new Runs();
        runs.run("README.md", rows.toString());
        runs.finish();
    }

    /** Of a line of Java with a comment such as "answers 5: .." or "throws SuchException: ..", or one that says less. */
    private static String row(String line) {
        Matcher call = CALL.matcher(line);
        if (!call.matches()) {
            throw new IllegalArgumentException("no call with a comment: " + line);
        }
        String comment = call.group(2).split(":")[0];
        if (comment.startsWith("answers ")) {
            return call.group(1) + " = " + comment.substring("answers ".length());
        }
        return call.group(1) + (comment.startsWith("throws ") ? " " + comment.replace("Exception", "") : "");
    }
}
