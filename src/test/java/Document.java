import java.io.IOException;
import java.nio.file.Files;
import java.nio.file.Path;
import java.util.ArrayList;
import java.util.Arrays;
import java.util.List;
import java.util.Map;
import java.util.TreeMap;

/** The document's text: every sentence of it must be cited by the look that belongs to it. */
final class Document {
    static final int DESCRIPTION = 0;
    private static final int OUTSIDE = -1;
    private static final Path FILE = Path.of("../shared/DOC.md");
    private static final List<String> LINES = lines();
    private static final Map<Integer, Section> SECTIONS = read();

    private static final class Section {
        private final StringBuilder text = new StringBuilder();
        private boolean[] cited = new boolean[0];
    }

    private Document() {
    }

    /** Says that the looks that follow are for this sentence (of a promise, or of the Description). */
    static void says(int section, String sentence) {
        if (SECTIONS.isEmpty()) {
            return;
        }
        Section part = SECTIONS.getOrDefault(section, new Section());
        int at = part.text.indexOf(sentence);
        Check.due("the document says in " + section + ": " + sentence, at >= 0, true);
        while (at >= 0) {
            Arrays.fill(part.cited, at, at + sentence.length(), true);
            at = part.text.indexOf(sentence, at + 1);
        }
    }

    static void everythingIsCited() {
        for (Map.Entry<Integer, Section> entry : SECTIONS.entrySet()) {
            Section part = entry.getValue();
            StringBuilder left = new StringBuilder();
            for (int i = 0; i < part.cited.length; i++) {
                left.append(part.cited[i] ? ' ' : part.text.charAt(i));
            }
            String rest = left.toString().trim();
            Check.due("section " + entry.getKey() + " has a sentence without a look: " + rest, rest.isEmpty(), true);
        }
    }

    /** What the document declares: the lines of its code block, and the signature of each promise. */
    static List<String> declarations() {
        List<String> all = new ArrayList<>();
        boolean inBlock = false;
        for (String line : LINES) {
            if (line.startsWith("```")) {
                inBlock = line.equals("```java");
            } else if (inBlock && !line.equals("}")) {
                all.add(line.trim());
            } else if (isSignature(line)) {
                all.add("public " + line.substring(1, line.length() - 1) + ";");
            }
        }
        return all;
    }

    private static List<String> lines() {
        try {
            return Files.readAllLines(FILE);
        } catch (IOException e) {
            System.out.println("no document at " + FILE + ": its words are not compared");
            return List.of();
        }
    }

    private static Map<Integer, Section> read() {
        Map<Integer, Section> sections = new TreeMap<>();
        int section = OUTSIDE;
        for (String line : LINES) {
            if (line.startsWith("## ")) {
                section = sectionOf(line);
            } else if (section != OUTSIDE && !line.isBlank() && !isSignature(line) && !line.startsWith("---- ")) {
                String words = line.trim().replaceAll(" +", " ");
                sections.computeIfAbsent(section, key -> new Section()).text.append(words).append(' ');
            }
        }
        sections.values().forEach(part -> part.cited = new boolean[part.text.length()]);
        return sections;
    }

    private static int sectionOf(String heading) {
        if (heading.startsWith("## Promise ")) {
            return Integer.parseInt(heading.substring("## Promise ".length(), heading.indexOf(':')));
        }
        return heading.equals("## Description") || heading.equals("## What it is") ? DESCRIPTION : OUTSIDE;
    }

    private static boolean isSignature(String line) {
        return line.startsWith("`") && line.endsWith("`") && !line.startsWith("```");
    }
}
