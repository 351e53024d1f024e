import java.io.IOException;
import java.nio.file.Files;
import java.nio.file.Path;
import java.util.ArrayList;
import java.util.LinkedHashMap;
import java.util.List;
import java.util.Map;

/**
 * Tests that quote the document: each quote must stand in it, and each of its sentences that claims something must
 * be quoted, so that a sentence without a test is found.
 */
abstract class Sentences extends Checks {
    private static final Path DOCUMENT = Path.of("../shared/DOC.md");
    /** For each section that is tested, the quotes of it. */
    private static final Map<String, List<String>> quotes = new LinkedHashMap<>();
    private static String section = "";

    /** Begins a section: "Promise 9", or the title of a paragraph of the description, as "Labels". */
    static void section(String name) {
        section = name;
        quotes.put(name, new ArrayList<>());
    }

    /** The sentence to which the next checks hold the class, or a part of it. */
    static void says(String words) {
        place = section + ", \"" + words + "\"";
        quotes.get(section).add(words);
    }

    /** Compares the quotes with the document, and ends the test; without the document the checks count all the same. */
    static void endQuotes() throws IOException {
        if (Files.isReadable(DOCUMENT)) {
            Map<String, List<String>> sentences = sentences(Files.readAllLines(DOCUMENT));
            for (String name : quotes.keySet()) {
                compare(name, sentences.getOrDefault(name, List.of()));
            }
        } else {
            System.out.println("no " + DOCUMENT + " to compare the quotes with");
        }
        end();
    }

    private static void compare(String name, List<String> sentences) {
        place = "the document, " + name;
        for (String quote : quotes.get(name)) {
            if (sentences.stream().noneMatch(s -> s.contains(quote))) {
                wrong("it does not say: " + quote);
            }
        }
        for (String sentence : sentences) {
            if (isClaim(sentence) && quotes.get(name).stream().noneMatch(sentence::contains)) {
                wrong("no test of: " + sentence);
            }
        }
    }

    /** A parameter with its name alone, a title, or "Returns the number." claims nothing. */
    private static boolean isClaim(String sentence) {
        return sentence.startsWith("- ") ? sentence.contains(",") : sentence.split(" ").length > 3;
    }

    /** The sentences of the sections, with each line of a list or of the grammar as one. */
    private static Map<String, List<String>> sentences(List<String> lines) {
        Map<String, List<String>> found = new LinkedHashMap<>();
        StringBuilder paragraph = new StringBuilder();
        String name = "";
        for (String line : lines) {
            boolean isStart = line.isBlank() || line.startsWith("- ") || line.startsWith("  ") || line.startsWith("## ");
            if (isStart) {
                name = take(found, name, paragraph);
            }
            if (line.startsWith("## ")) {
                name = line.substring(3).split(":")[0];
            } else if (!line.startsWith("`") && !line.startsWith("----")) {
                paragraph.append(line.trim()).append(' ');
            }
        }
        take(found, name, paragraph);
        return found;
    }

    /** Puts a paragraph under its title if it has one, otherwise under the one before it, which is returned. */
    private static String take(Map<String, List<String>> found, String before, StringBuilder paragraph) {
        String name = before;
        for (String sentence : paragraph.toString().trim().split("(?<=\\.) (?=[A-Z])")) {
            if (sentence.matches("[A-Z][a-z]+\\.")) {
                name = sentence.substring(0, sentence.length() - 1);
            } else if (!sentence.isEmpty()) {
                found.computeIfAbsent(name, k -> new ArrayList<>()).add(sentence);
            }
        }
        paragraph.setLength(0);
        return name;
    }
}
