import java.io.IOException;
import java.lang.reflect.Method;
import java.lang.reflect.Modifier;
import java.nio.charset.StandardCharsets;
import java.nio.file.Files;
import java.nio.file.Path;
import java.util.ArrayList;
import java.util.List;
import java.util.regex.Matcher;
import java.util.regex.Pattern;

/** README.md names all calls and numbers that there are, and its examples answer what it says behind them. */
final class ReadmeTest {
    private static final Pattern CALL = Pattern.compile("x\\.(\\w+)\\(([^)]*)\\);\\s*// (-?\\d+)\\b.*");
    private static final Pattern TEXT = Pattern.compile("String text = \"([^\"]*)\";");
    private static final String MAKING = "GutterBoats x = new GutterBoats();";
    private static final List<String> APPENDING = List.of(
            "for (int i = 0; i < text.length(); i++) {", "x.append(text.charAt(i));", "}");

    private ReadmeTest() {
    }

    private static String readme() throws IOException {
        return Files.readString(Path.of("README.md"), StandardCharsets.UTF_8);
    }

    private static List<String> examples() throws IOException {
        List<String> found = new ArrayList<>();
        Matcher matcher = Pattern.compile("(?s)```java\n(.*?)```").matcher(readme());
        while (matcher.find()) {
            found.add(matcher.group(1));
        }
        return found;
    }

    static void readme_theExamplesAnswerAsItSays() throws IOException, ReflectiveOperationException {
        int calls = 0;
        for (String example : examples()) {
            calls += run(example);
        }
        if (calls < 20) {
            throw new Check.Wrong("README.md has examples with " + calls + " calls only");
        }
    }

    private static int run(String example) throws ReflectiveOperationException {
        GutterBoats x = new GutterBoats();
        int calls = 0;
        for (String line : example.split("\n")) {
            String plain = line.trim();
            Matcher call = CALL.matcher(plain);
            Matcher text = TEXT.matcher(plain);
            if (call.matches()) {
                Check.due("README.md's " + plain, answer(x, call.group(1), call.group(2)), Integer.parseInt(call.group(3)));
                calls++;
            } else if (text.matches()) {
                Check.write(x, text.group(1));
            } else if (!plain.equals(MAKING) && !APPENDING.contains(plain)) {
                throw new Check.Wrong("README.md's line is not understood: " + plain);
            }
        }
        return calls;
    }

    private static int answer(GutterBoats x, String name, String written) throws ReflectiveOperationException {
        String[] words = written.isEmpty() ? new String[0] : written.split(", ");
        for (Method method : GutterBoats.class.getDeclaredMethods()) {
            if (method.getName().equals(name) && method.getParameterCount() == words.length) {
                Object[] arguments = new Object[words.length];
                for (int i = 0; i < words.length; i++) {
                    long value = words[i].startsWith("'") ? words[i].charAt(1) : Long.parseLong(words[i].replace("L", ""));
                    arguments[i] = method.getParameterTypes()[i] == long.class ? (Object) value : (Object) (int) value;
                }
                return (Integer) method.invoke(x, arguments);
            }
        }
        throw new Check.Wrong("README.md calls " + name + "(" + written + ")");
    }

    static void readme_eachCallHasARow() throws IOException {
        for (Method method : GutterBoats.class.getDeclaredMethods()) {
            if (!Modifier.isPublic(method.getModifiers())) {
                continue;
            }
            String name = Pattern.quote(method.getName());
            String arguments = "\\w+(, \\w+)*";
            String row = "(?m)^\\| `" + name + "\\((" + arguments + ")?\\)` \\|.*$";
            Matcher matcher = Pattern.compile(row).matcher(readme());
            if (!matcher.find()) {
                throw new Check.Wrong("README.md has no row for " + method.getName());
            }
            int told = matcher.group(1) == null ? 0 : matcher.group(1).split(", ").length;
            Check.due("the arguments of " + method.getName() + " in README.md", told, method.getParameterCount());
        }
    }

    static void readme_eachCommandOfATextHasARow() throws IOException {
        String[] commands = {"g102000", "b300", "l00", "m01", "h0000", "c00", "s00"};
        for (String command : commands) {
            Check.due("errorPosition()", Check.withText("T" + command).errorPosition(), GutterBoats.NONE);
            if (!readme().contains("\n| `" + command.charAt(0) + "` |")) {
                throw new Check.Wrong("README.md has no row for the command " + command);
            }
        }
    }
}
