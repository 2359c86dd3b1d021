import java.io.ByteArrayOutputStream;
import java.io.IOException;
import java.io.PrintStream;
import java.net.URL;
import java.net.URLClassLoader;
import java.nio.charset.StandardCharsets;
import java.nio.file.Files;
import java.nio.file.Path;
import java.util.ArrayList;
import java.util.List;
import java.util.regex.Matcher;
import java.util.regex.Pattern;
import java.util.stream.Stream;
import javax.tools.JavaCompiler;
import javax.tools.ToolProvider;

/**
 * README.md: its example compiles and prints what is said, each call is told
 * in the document's words and in them alone, and so is what can be wished.
 */
public final class ReadmeTest {
    private static final Path README = Path.of("README.md");
    private static final Path DOCUMENT = Path.of("..", "shared", "DOC.md");
    private static final String SOURCE = "src/main/java/FutureWishes.java";
    private static final int PROMISES = 24;
    private static final int KINDS_OF_WISHES = 4;
    private static int checked = 0;
    private static int wrong = 0;

    private ReadmeTest() {
    }

    public static void main(String[] args) throws Exception {
        String readme = Files.readString(README, StandardCharsets.UTF_8);
        String document = Files.readString(DOCUMENT, StandardCharsets.UTF_8);
        callsAreToldAsPromised(readme, document);
        wishesAreToldAsInTheTerms(readme, document);
        exampleRuns(readme);
        System.out.println("ReadmeTest: " + checked + " answers, " + wrong + " wrong");
        if (wrong != 0) {
            System.exit(1);
        }
    }

    private static void due(String what, String want, String got) {
        checked++;
        if (!want.equals(got)) {
            wrong++;
            System.out.println(what + ": README.md has\n  " + got + "\n, due is\n  " + want);
        }
    }

    /** One line, however it was wrapped. */
    private static String line(String text) {
        return text.strip().replaceAll("\\s+", " ");
    }

    /** The rows that begin with "- " in the first column, each with what belongs to it. */
    private static List<String> items(String text) {
        List<String> items = new ArrayList<>();
        for (String part : text.split("\n(?=- |#|\n)")) {
            if (part.startsWith("- ")) {
                items.add(line(part));
            }
        }
        return items;
    }

    /** The text from one heading to the next one of its height or above. */
    private static String section(String text, String heading) {
        int begin = text.indexOf("\n" + heading + "\n");
        if (begin < 0) {
            return "";
        }
        int end = text.indexOf("\n## ", begin + 1);
        return text.substring(begin + heading.length() + 2, end < 0 ? text.length() : end);
    }

    private static void callsAreToldAsPromised(String readme, String document) {
        List<String> told = items(section(readme, "## What the calls answer and throw"));
        List<String> promised = new ArrayList<>();
        Matcher headings = Pattern.compile("(?m)^## Promise \\d+: .*$").matcher(document);
        while (headings.find()) {
            promised.add(asItem(section(document, headings.group())));
        }
        due("the calls", PROMISES + " of " + PROMISES, told.size() + " of " + promised.size());
        for (int k = 0; k < Math.min(told.size(), promised.size()); k++) {
            due("promise " + (k + 1), promised.get(k), told.get(k));
        }
    }

    /** A promise as an item: its call without types and throws clause, then its other lines as items in it. */
    private static String asItem(String promise) {
        StringBuilder item = new StringBuilder();
        for (String row : promise.strip().split("\n")) {
            if (item.length() == 0) {
                int end = row.indexOf("`: ");
                String call = row.substring(1, end).replaceFirst(" throws .*", "").replaceAll("\\b(int|long|double) ", "");
                item.append("- `").append(call).append(row.substring(end));
            } else if (!row.isBlank()) {
                item.append(row.startsWith("- ") ? " " : " - ").append(row);
            }
        }
        return line(item.toString());
    }

    private static void wishesAreToldAsInTheTerms(String readme, String document) {
        List<String> told = items(section(readme, "## What can be wished"));
        due("kinds of wishes", "" + KINDS_OF_WISHES, "" + told.size());
        for (String item : told) {
            due("what can be wished", item, document.contains("\n" + item + "\n") ? item : "the document has no such row");
        }
    }

    private static String block(String readme, String language) {
        Matcher block = Pattern.compile("(?s)\n```" + language + "\n(.*?)\n```\n").matcher(readme);
        return block.find() ? block.group(1) : "";
    }

    private static void exampleRuns(String readme) throws Exception {
        Path made = Files.createTempDirectory("readme");
        try {
            Path example = made.resolve("Example.java");
            Files.writeString(example, block(readme, "java"), StandardCharsets.UTF_8);
            JavaCompiler compiler = ToolProvider.getSystemJavaCompiler();
            int code = compiler.run(null, null, null, "-d", made.toString(), SOURCE, example.toString());
            due("the example's compilation", "0", "" + code);
            due("what the example prints", printed(made).strip(), block(readme, "text"));
        } finally {
            clear(made);
        }
    }

    private static String printed(Path classes) throws Exception {
        PrintStream before = System.out;
        ByteArrayOutputStream bytes = new ByteArrayOutputStream();
        URL[] places = {classes.toUri().toURL()};
        try (URLClassLoader loader = new URLClassLoader(places, ClassLoader.getPlatformClassLoader())) {
            System.setOut(new PrintStream(bytes, true, StandardCharsets.UTF_8));
            loader.loadClass("Example").getMethod("main", String[].class).invoke(null, (Object) new String[0]);
        } finally {
            System.setOut(before);
        }
        return bytes.toString(StandardCharsets.UTF_8).replace("\r\n", "\n");
    }

    private static void clear(Path folder) throws IOException {
        try (Stream<Path> inside = Files.list(folder)) {
            for (Path file : inside.toList()) {
                Files.delete(file);
            }
        }
        Files.delete(folder);
    }
}
