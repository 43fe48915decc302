import java.io.IOException;
import java.lang.reflect.Field;
import java.lang.reflect.Modifier;
import java.nio.file.Files;
import java.nio.file.Path;
import java.util.ArrayList;
import java.util.HashMap;
import java.util.List;
import java.util.Map;
import java.util.Set;
import java.util.regex.Matcher;
import java.util.regex.Pattern;

/** Rules of LANGUAGE.md that can be seen in the text of the program. */
public final class LanguageTest {
    private static final Due DUE = new Due("LanguageTest");
    private static final String[] RULED_OUT = {
        "package", "throw", "throws", "try", "catch", "finally", "synchronized", "assert", "volatile", "native",
        "protected", "default\\s*->", "->", "::", "yield", "var", "Object", "System\\.(?!arraycopy\\b)\\w+", "Random",
        "Thread", "\\w+Exact", "hashCode", "toString", "double", "float", "new\\s+\\w+\\s*\\([^)]*\\)\\s*\\{",
        "String\\.\\w+", "static\\s*\\{", "@\\w+"};
    /** Of the library that rule 4 leaves, what the program uses. */
    private static final Set<String> LIBRARY = Set.of("Math.max", "Math.min", "Integer.bitCount", "Long.bitCount",
        "Arrays.fill", "System.arraycopy");
    private static final int DEEP = 8, CLASSES = 12, FIELDS = 20, LINES = 60, PARAMETERS = 7;
    private static final Pattern OWN_CLASS = Pattern.compile("\\bclass (\\w+)");
    private static final Pattern METHOD =
        Pattern.compile("(?m)^( +)[\\w\\[\\]. ]*?\\b(\\w+)\\(([^()]*)\\) \\{$");

    /** A method's text, by its class and name. */
    private record Body(String of, String name, String parameters, String text) {
        String key() {
            return of + "." + name;
        }
    }

    public static void main(String[] args) throws IOException {
        String text = Files.readString(Path.of("src/main/java/IceByEar.java"));
        DUE.holds("signs 1 to 127 alone", text.chars().allMatch(c -> c >= 1 && c <= 127));
        String bare = bare(text);
        nothingRuledOut(bare);
        libraryIsThatOfRule4(bare);
        loopsHaveABound(bare);
        staticRowsStay(bare);
        classesAreSmall();
        List<Body> bodies = bodies(bare);
        methodsAreShort(bodies);
        callsGoNotDeep(bare, bodies);
        DUE.end();
    }

    private static String bare(String text) {
        String noComments = Pattern.compile("/\\*.*?\\*/", Pattern.DOTALL).matcher(text).replaceAll("");
        return noComments.replaceAll("//[^\n]*", "").replaceAll("\"[^\"\n]*\"", "\"\"");
    }

    private static void nothingRuledOut(String bare) {
        for (String word : RULED_OUT) {
            String edge = Character.isLetter(word.charAt(0)) ? "\\b" : "";
            Matcher found = Pattern.compile(edge + word + edge.replace("\\b", "(?!\\w)")).matcher(bare);
            DUE.holds("no " + word + (found.find() ? " as in '" + found.group() + "'" : ""), !found.find(0));
        }
        DUE.holds("nothing is brought in but java.util.Arrays",
            bare.replace("import java.util.Arrays;", "").indexOf("import") < 0);
    }

    private static void libraryIsThatOfRule4(String bare) {
        Matcher use = Pattern.compile("\\b([A-Z][a-z]\\w*)\\.(\\w+)").matcher(bare);
        while (use.find()) {
            DUE.holds(use.group() + " is of the library", LIBRARY.contains(use.group()));
        }
    }

    /** Rule 9: a counter against a bound, in the loop's own lines. */
    private static void loopsHaveABound(String bare) {
        Matcher loop = Pattern.compile("\\b(for|while|do) ?(\\(.*)").matcher(bare);
        int loops = 0;
        while (loop.find()) {
            loops++;
            String head = loop.group(2);
            DUE.holds(loop.group() + " has a bound", head.matches(".*\\w [<>]=? \\w.*") || head.contains(" : "));
        }
        DUE.holds("the loops were found: " + loops, loops > 30);
    }

    private static void staticRowsStay(String bare) {
        Matcher row = Pattern.compile("static final \\w+\\[\\] (\\w+) = (\\S)").matcher(bare);
        while (row.find()) {
            DUE.holds(row.group(1) + " is written out", row.group(2).equals("{"));
            DUE.holds(row.group(1) + " is never changed",
                !Pattern.compile("\\b" + row.group(1) + "\\[[^;]*\\] ?=[^=]").matcher(bare).find());
        }
    }

    private static void classesAreSmall() {
        Class<?>[] inside = IceByEar.class.getDeclaredClasses();
        DUE.holds("classes: " + (inside.length + 1), inside.length + 1 <= CLASSES);
        for (Class<?> one : inside) {
            fieldsAreFew(one);
        }
        fieldsAreFew(IceByEar.class);
    }

    private static void fieldsAreFew(Class<?> of) {
        int fields = 0;
        for (Field field : of.getDeclaredFields()) {
            fields += Modifier.isStatic(field.getModifiers()) ? 0 : 1;
        }
        DUE.holds(of.getName() + " has " + fields + " fields", fields <= FIELDS);
    }

    private static List<Body> bodies(String bare) {
        List<Body> bodies = new ArrayList<>();
        Matcher head = METHOD.matcher(bare);
        while (head.find()) {
            if (head.group().matches("\\s*(if|for|while|switch|\\}|else|do)\\b.*")) {
                continue;
            }
            String name = head.group(2), of = "IceByEar";
            Matcher inside = OWN_CLASS.matcher(bare.substring(0, head.start()));
            while (inside.find() && head.group(1).length() > 4) {
                of = inside.group(1);
            }
            int end = bare.indexOf("\n" + head.group(1) + "}", head.end());
            DUE.holds(of + "." + name + " has an end", end > 0);
            bodies.add(new Body(of, name, head.group(3), bare.substring(head.end(), end)));
        }
        DUE.holds("the methods were found: " + bodies.size(), bodies.size() > 80);
        return bodies;
    }

    private static void methodsAreShort(List<Body> bodies) {
        for (Body body : bodies) {
            DUE.holds(body.key() + " is short", body.text().split("\n").length <= LINES);
            DUE.holds(body.key() + " takes few", body.parameters().split(",").length <= PARAMETERS);
        }
    }

    /** Rules 8 and 11: by names, whose classes are those that fields, parameters and variables are declared by. */
    private static void callsGoNotDeep(String bare, List<Body> bodies) {
        Map<String, Body> byKey = new HashMap<>();
        for (Body body : bodies) {
            byKey.put(body.key(), body);
        }
        Map<String, String> types = new HashMap<>();
        Matcher declared = Pattern.compile("\\b([A-Z][a-z]\\w+)(?:\\[\\])? (\\w+)").matcher(bare);
        while (declared.find()) {
            types.put(declared.group(2), declared.group(1));
        }
        int deepest = 0;
        for (Body body : bodies) {
            deepest = Math.max(deepest, depth(body, byKey, types, 1));
        }
        DUE.holds("calls go " + deepest + " deep", deepest > 3 && deepest <= DEEP);
    }

    private static int depth(Body body, Map<String, Body> byKey, Map<String, String> types, int open) {
        int deepest = open;
        Matcher call = Pattern.compile("(?:(\\w+)(?:\\[\\w+\\])?\\.)?\\b(\\w+)\\(").matcher(body.text());
        while (call.find() && open <= DEEP) {
            String of = call.group(1) == null ? body.of() : types.getOrDefault(call.group(1), call.group(1));
            Body called = byKey.getOrDefault(of + "." + call.group(2), byKey.get("IceByEar." + call.group(2)));
            if (called != null) {
                deepest = Math.max(deepest, depth(called, byKey, types, open + 1));
            }
        }
        return deepest;
    }
}
