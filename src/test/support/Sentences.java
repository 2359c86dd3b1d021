import java.io.IOException;
import java.nio.charset.StandardCharsets;
import java.nio.file.Files;
import java.nio.file.Path;
import java.util.ArrayList;
import java.util.LinkedHashMap;
import java.util.List;
import java.util.Map;

/**
 * Tests by the sentences of the document. Each test names its section and the
 * words that it holds the class to; the words have to stand there, and each
 * sentence of a section has to have a test (or to be named as plain), so that
 * no sentence can be left out or misquoted unseen.
 */
final class Sentences {
    private static final Path DOCUMENT = Path.of("..", "shared", "DOC.md");
    private static final Map<String, List<String>> SECTIONS = new LinkedHashMap<>();
    private static final List<String> ENTERED = new ArrayList<>();
    private static final List<String> QUOTED = new ArrayList<>();
    private static String section = "";
    private static String words = "";
    private static int tests = 0;
    private static int checked = 0;
    private static int wrong = 0;

    private Sentences() {
    }

    /** Enters a section of the document, by its heading. */
    static void section(String heading) {
        if (SECTIONS.isEmpty()) {
            readDocument();
        }
        close();
        section = heading;
        words = "";
        if (!SECTIONS.containsKey(heading)) {
            wrong("the document has no such section");
        }
        ENTERED.add(heading);
    }

    /** A test of words that stand in the section. */
    static void test(String quoted, Runnable body) {
        quote(quoted);
        tests++;
        int before = checked;
        body.run();
        if (checked == before) {
            wrong("the test asks nothing");
        }
    }

    /** Words that say nothing that a call could answer. */
    static void plain(String quoted) {
        quote(quoted);
    }

    private static void quote(String quoted) {
        words = quoted;
        boolean stands = false;
        for (String sentence : SECTIONS.getOrDefault(section, List.of())) {
            stands |= sentence.contains(quoted);
        }
        if (!stands) {
            wrong("these words do not stand there");
        }
        QUOTED.add(quoted);
    }

    static void due(String before, String call, String want, String got) {
        checked++;
        if (!want.equals(got)) {
            wrong(before + ": " + call + " answered " + got + ", due is " + want);
        }
    }

    static void wrong(String what) {
        wrong++;
        System.out.println(section + ", \"" + words + "\": " + what);
    }

    /** Ends the program, with 1 if an answer was wrong or a sentence from one section to another has no test. */
    static void end(String name, String first, String last) {
        close();
        boolean within = false;
        for (String heading : SECTIONS.keySet()) {
            within |= heading.equals(first);
            if (within && !ENTERED.contains(heading) && !SECTIONS.get(heading).isEmpty()) {
                wrong("the section " + heading + " has no tests");
            }
            within &= !heading.equals(last);
        }
        System.out.println(name + ": " + tests + " sentences, " + checked + " answers, " + wrong + " wrong");
        if (wrong != 0) {
            System.exit(1);
        }
    }

    private static void close() {
        for (String sentence : SECTIONS.getOrDefault(section, List.of())) {
            boolean quoted = false;
            for (String quote : QUOTED) {
                quoted |= sentence.contains(quote);
            }
            if (!quoted) {
                words = sentence;
                wrong("no test names this sentence");
            }
        }
        QUOTED.clear();
    }

    private static void readDocument() {
        List<String> sentences = new ArrayList<>();
        boolean code = false;
        try {
            for (String line : Files.readAllLines(DOCUMENT, StandardCharsets.UTF_8)) {
                String told = line.strip();
                if (told.startsWith("```")) {
                    code = !code;
                } else if (told.startsWith("#") || told.equals("Worlds, ways")) {
                    sentences = new ArrayList<>();
                    SECTIONS.put(told.replaceFirst("^#+ *", ""), sentences);
                } else if (!code && !told.isEmpty()) {
                    sentences.addAll(List.of(told.split("(?<=\\.) ")));
                }
            }
        } catch (IOException e) {
            wrong("the document cannot be read: " + DOCUMENT.toAbsolutePath());
        }
    }
}
