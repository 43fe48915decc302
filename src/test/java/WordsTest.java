import java.io.IOException;
import java.lang.reflect.Method;
import java.nio.file.Files;
import java.nio.file.Path;
import java.util.ArrayList;
import java.util.Arrays;
import java.util.HashMap;
import java.util.HashSet;
import java.util.List;
import java.util.Map;
import java.util.Set;

/** src/test/WORDS.md quotes the whole document, and names for each quote tests that are there. */
public final class WordsTest {
    private static final Path WORDS = Path.of("src/test/WORDS.md"), DOCUMENT = Path.of("../shared/DOC.md");
    private static final Path TESTS = Path.of("src/test/java");
    private static final Due DUE = new Due("WordsTest");

    /** Lines that stand together: what they quote of the document, and what is named below that. */
    private static final class Block {
        final List<String> words = new ArrayList<>();
        final List<String> named = new ArrayList<>();

        void add(String line) {
            if (line.startsWith("> ")) {
                words.addAll(words(line.substring(2)));
            } else if (line.startsWith("- ")) {
                named.add(line.substring(2));
            } else if (line.startsWith("  ") && !named.isEmpty()) {
                named.add(named.remove(named.size() - 1) + line.substring(1));
            }
        }
    }

    public static void main(String[] args) throws IOException, ReflectiveOperationException {
        List<Block> blocks = blocks();
        DUE.holds("there are quotes", blocks.size() > 100);
        if (Files.exists(DOCUMENT)) {
            wordsAreTheDocuments(blocks);
        } else {
            System.out.println("WordsTest: no " + DOCUMENT + " here, so the quotes are not compared with it");
        }
        Map<String, Set<String>> named = new HashMap<>();
        for (Block block : blocks) {
            testsAreThere(block, named);
        }
        everyEdgeIsNamed(named);
        DUE.end();
    }

    private static List<String> words(String text) {
        List<String> words = new ArrayList<>(Arrays.asList(text.split("\\s+")));
        words.removeIf(String::isEmpty);
        return words;
    }

    private static List<Block> blocks() throws IOException {
        List<Block> blocks = new ArrayList<>();
        for (String part : Files.readString(WORDS).split("\n\n")) {
            Block block = new Block();
            for (String line : part.split("\n")) {
                block.add(line);
            }
            if (!block.words.isEmpty() || !block.named.isEmpty()) {
                blocks.add(block);
            }
        }
        return blocks;
    }

    private static void wordsAreTheDocuments(List<Block> blocks) throws IOException {
        List<String> quoted = new ArrayList<>();
        for (Block block : blocks) {
            quoted.addAll(block.words);
        }
        List<String> document = words(Files.readString(DOCUMENT));
        int same = 0;
        while (same < Math.min(quoted.size(), document.size()) && quoted.get(same).equals(document.get(same))) {
            same++;
        }
        DUE.holds("the document goes on: " + from(document, same) + "\n    the quotes go on: " + from(quoted, same),
            same == quoted.size() && same == document.size());
    }

    private static String from(List<String> words, int first) {
        return String.join(" ", words.subList(first, Math.min(words.size(), first + 12)));
    }

    private static void testsAreThere(Block block, Map<String, Set<String>> named) throws ClassNotFoundException {
        String quote = from(block.words, 0);
        DUE.holds("'" + quote + "' has a test", !block.named.isEmpty());
        for (String line : block.named) {
            String[] parts = line.split(": ", 2);
            DUE.holds("'" + line + "' names something", parts.length == 2 && !parts[1].isBlank());
            if (parts.length == 2 && !parts[0].equals("free")) {
                DUE.holds(parts[0] + " is run", parts[0].endsWith("Test")
                    && Files.exists(TESTS.resolve(parts[0] + ".java")));
                for (String method : parts[1].split(",\\s*")) {
                    DUE.holds(parts[0] + "." + method + " is there", methods(parts[0]).contains(method));
                    named.computeIfAbsent(parts[0], key -> new HashSet<>()).add(method);
                }
            }
        }
    }

    private static Set<String> methods(String test) throws ClassNotFoundException {
        Set<String> names = new HashSet<>();
        for (Method method : Class.forName(test).getDeclaredMethods()) {
            names.add(method.getName());
        }
        return names;
    }

    private static void everyEdgeIsNamed(Map<String, Set<String>> named) throws IOException, ClassNotFoundException {
        List<Path> files;
        try (var all = Files.list(TESTS)) {
            files = all.sorted().toList();
        }
        for (Path file : files) {
            String test = file.getFileName().toString().replace(".java", "");
            if (test.matches("Edge\\w+Test")) {
                for (String method : methods(test)) {
                    DUE.holds(test + "." + method + " is named in " + WORDS, !method.matches("p\\d\\d[A-Z]\\w*")
                        || named.getOrDefault(test, Set.of()).contains(method));
                }
            }
        }
    }
}
