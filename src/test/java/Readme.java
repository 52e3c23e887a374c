import java.lang.reflect.InvocationTargetException;
import java.lang.reflect.Method;
import java.nio.file.Files;
import java.nio.file.Path;
import java.util.Arrays;
import java.util.regex.Matcher;
import java.util.regex.Pattern;

/** The examples of README.md, made row by row; the number behind the two strokes is due. */
public final class Readme extends Checks {
    private static final Pattern BLOCK = Pattern.compile("```java\n(.*?)```", Pattern.DOTALL);
    private static final Pattern SAID = Pattern.compile("say\\(x, \"([^\"]*)\"\\);");
    private static final Pattern ASKED = Pattern.compile("x\\.(\\w+)\\(([-0-9, ]*)\\);\\s*// (-?[0-9]+).*");
    private static final int LEAST_CALLS = 40;

    private static OneHead object = new OneHead();

    public static void main(String[] args) throws Exception {
        String readme = Files.readString(Path.of("README.md"));
        String helpers = Files.readString(Path.of("src/test/java/Checks.java"));
        Matcher block = BLOCK.matcher(readme);
        while (block.find()) {
            if (block.group(1).startsWith("static ")) {
                about = "the helper";
                due("stands in Checks", bare(helpers).contains(bare(block.group(1))) ? 1 : 0, 1);
            } else {
                // A text told in two rows is one text.
                for (String row : block.group(1).replaceAll("\"\\s*\\+\\s*\"", "").split("\n")) {
                    make(row.strip());
                }
            }
        }
        about = "README.md";
        due("has its examples", made >= LEAST_CALLS ? 1 : 0, 1);
        finish();
    }

    private static String bare(String text) {
        return text.replaceAll("\\s+", "");
    }

    private static void make(String row) throws IllegalAccessException, InvocationTargetException {
        about = row;
        Matcher said = SAID.matcher(row);
        Matcher asked = ASKED.matcher(row);
        if (row.equals("OneHead x = new OneHead();")) {
            object = new OneHead();
        } else if (said.matches()) {
            say(object, said.group(1));
        } else if (asked.matches()) {
            due("README.md", ask(asked.group(1), asked.group(2)), Integer.parseInt(asked.group(3)));
        } else if (!row.isEmpty()) {
            due("is read", 0, 1);
        }
    }

    private static int ask(String name, String numbers) throws IllegalAccessException, InvocationTargetException {
        Object[] values = Arrays.stream(numbers.split(",")).map(String::strip).filter(n -> !n.isEmpty())
                .map(Integer::valueOf).toArray();
        for (Method method : OneHead.class.getDeclaredMethods()) {
            if (method.getName().equals(name) && method.getParameterCount() == values.length) {
                return (int) method.invoke(object, values);
            }
        }
        due(name + " of " + values.length + " numbers is a call", 0, 1);
        return 0;
    }
}
