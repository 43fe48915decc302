import java.io.IOException;
import java.lang.reflect.Method;
import java.lang.reflect.Modifier;
import java.nio.file.Files;
import java.nio.file.Path;
import java.util.Set;
import java.util.TreeSet;
import java.util.regex.Matcher;
import java.util.regex.Pattern;

/** Every call in a java block of README.md has the answer that stands beside it, and every call of the face is shown. */
public final class ReadmeTest {
    private static final Due DUE = new Due("ReadmeTest");
    private static final Pattern BLOCK = Pattern.compile("```java\n(.*?)```", Pattern.DOTALL);
    private static final Pattern CALL = Pattern.compile("x\\.(\\w+)\\((.*?)\\);\\s+// (-?\\w+): \\S.*");

    public static void main(String[] args) throws IOException, ReflectiveOperationException {
        Set<String> shown = new TreeSet<>(), face = new TreeSet<>();
        Matcher block = BLOCK.matcher(Files.readString(Path.of("README.md")));
        while (block.find()) {
            run(block.group(1), shown);
        }
        for (Method method : IceByEar.class.getDeclaredMethods()) {
            if (Modifier.isPublic(method.getModifiers())) {
                face.add(method.getName());
            }
        }
        DUE.holds("README.md shows " + face + ", it shows " + shown, shown.equals(face));
        DUE.end();
    }

    private static void run(String block, Set<String> shown) throws ReflectiveOperationException {
        String[] lines = block.split("\n");
        DUE.holds("a block makes its object: " + lines[0], lines[0].equals("IceByEar x = new IceByEar();"));
        IceByEar x = new IceByEar();
        for (int i = 1; i < lines.length; i++) {
            Matcher call = CALL.matcher(lines[i]);
            boolean isCall = call.matches();
            DUE.holds("a call and its answer: " + lines[i], isCall);
            if (isCall) {
                shown.add(call.group(1));
                DUE.is(lines[i], ask(x, call.group(1), call.group(2)), answer(call.group(3)));
            }
        }
    }

    private static long answer(String text) throws ReflectiveOperationException {
        return Character.isLetter(text.charAt(0)) ? IceByEar.class.getField(text).getInt(null) : Long.parseLong(text);
    }

    private static long ask(IceByEar x, String name, String numbers) throws ReflectiveOperationException {
        String[] given = numbers.isBlank() ? new String[0] : numbers.split(", ");
        for (Method method : IceByEar.class.getDeclaredMethods()) {
            if (method.getName().equals(name) && method.getParameterCount() == given.length) {
                Object[] args = new Object[given.length];
                for (int i = 0; i < args.length; i++) {
                    long v = Long.decode(given[i].replace("L", ""));
                    args[i] = method.getParameterTypes()[i] == long.class ? (Object) v : (Object) Math.toIntExact(v);
                }
                return ((Number) method.invoke(x, args)).longValue();
            }
        }
        throw new IllegalStateException("no call " + name + " by " + given.length + " numbers");
    }
}
