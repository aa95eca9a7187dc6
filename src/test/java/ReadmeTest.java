import java.io.IOException;
import java.lang.reflect.InvocationTargetException;
import java.lang.reflect.Method;
import java.nio.ByteBuffer;
import java.nio.charset.StandardCharsets;
import java.nio.file.Files;
import java.nio.file.Path;
import java.util.Arrays;
import java.util.regex.Matcher;
import java.util.regex.Pattern;

/** README.md: each Java line of it answers what stands behind it there. */
final class ReadmeTest {
    private static final String NEW = "AlmanacOffice office = new AlmanacOffice();";
    private static final Pattern FEED = Pattern.compile("feed\\(office, \"(.*)\"\\);");
    private static final Pattern CALL = Pattern.compile("office\\.([a-zA-Z]+)\\((.*?)\\); +// (.+)");
    private static final String[] EXCEPTIONS = {
        "IndexOutOfBoundsException", "NoSuchElementException", "IllegalArgumentException", "IllegalStateException",
    };

    private static AlmanacOffice office = null;
    private static int calls = 0;

    public static void main(String[] args) throws IOException, ReflectiveOperationException {
        String readme = Files.readString(Path.of("README.md"));
        String itself = Files.readString(Path.of("src/test/java/ReadmeTest.java"));
        Matcher block = Pattern.compile("```java\n(.*?)```", Pattern.DOTALL).matcher(readme);
        while (block.find()) {
            if (block.group(1).startsWith("static")) {
                Check.due("feed of README.md stands in this test", itself.contains(block.group(1).indent(4)), true);
            } else {
                for (String line : block.group(1).split("\n")) run(line);
            }
        }
        Check.due("README.md has calls for all that it tells", calls > 20, true);
        for (String name : EXCEPTIONS) Check.due("README.md has a call for " + name, readme.contains("// throws " + name), true);
        Check.end();
    }

    private static void run(String line) throws ReflectiveOperationException {
        Matcher feed = FEED.matcher(line);
        Matcher call = CALL.matcher(line);
        if (line.equals(NEW)) {
            office = new AlmanacOffice();
        } else if (feed.matches()) {
            feed(office, feed.group(1));
        } else if (call.matches()) {
            calls++;
            Check.dueText(line, answer(call.group(1), call.group(2)), call.group(3));
        } else {
            Check.report("README.md has a line that is no call with an answer: " + line);
        }
    }

    private static String answer(String name, String list) throws ReflectiveOperationException {
        String[] words = list.isEmpty() ? new String[0] : list.split(", ");
        Class<?>[] types = new Class<?>[words.length];
        Object[] arguments = new Object[words.length];
        for (int i = 0; i < words.length; i++) {
            types[i] = int.class;
            arguments[i] = number(words[i]);
        }
        Method method = AlmanacOffice.class.getMethod(name, types);
        try {
            return String.valueOf(method.invoke(office, arguments));
        } catch (InvocationTargetException e) {
            return "throws " + e.getCause().getClass().getSimpleName();
        }
    }

    private static int number(String word) throws ReflectiveOperationException {
        String prefix = "AlmanacOffice.";
        if (word.startsWith(prefix)) return AlmanacOffice.class.getField(word.substring(prefix.length())).getInt(null);
        return Integer.parseInt(word);
    }

    static void feed(AlmanacOffice office, String text) {
        byte[] bytes = text.getBytes(StandardCharsets.ISO_8859_1);
        ByteBuffer row = ByteBuffer.wrap(Arrays.copyOf(bytes, (bytes.length + 19) / 20 * 20));
        while (row.hasRemaining()) office.appendInput(row.getInt(), row.getInt(), row.getInt(), row.getInt(), row.getInt());
        office.truncateInput(bytes.length);
    }
}
