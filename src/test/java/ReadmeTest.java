import java.io.IOException;
import java.io.StringWriter;
import java.lang.reflect.Field;
import java.lang.reflect.Method;
import java.lang.reflect.Modifier;
import java.net.URI;
import java.nio.file.Files;
import java.nio.file.Path;
import java.util.List;
import java.util.regex.Matcher;
import java.util.regex.Pattern;
import javax.tools.JavaFileObject;
import javax.tools.SimpleJavaFileObject;
import javax.tools.ToolProvider;

/** What README.md says: its example, with the answers told there, and the names. It is run at the project's root. */
public final class ReadmeTest extends Expect {
    private static final Pattern EXAMPLE = Pattern.compile("```java\n(.*?)```", Pattern.DOTALL);
    private static final Pattern ANSWER = Pattern.compile("(?m)^(ship\\..*\\)); +// (-?[0-9]+)\\b.*$");
    private static final String LINE_TOLD = "the length of the line, which is \"";

    public static void main(String[] args) throws IOException, ReflectiveOperationException {
        String readme = Files.readString(Path.of("README.md"));
        names(readme);
        Matcher example = EXAMPLE.matcher(readme);
        due("there is an example", example.find(), true);
        due("the example is compiled", runs(withAnswersLookedAt(example.group(1))), true);
        finish();
    }

    private static void names(String readme) {
        for (Method method : MoodSextant.class.getDeclaredMethods()) {
            if (Modifier.isPublic(method.getModifiers())) {
                due(method.getName() + " is named", readme.contains("`" + method.getName() + "`"), true);
            }
        }
        for (Field constant : MoodSextant.class.getFields()) {
            due(constant.getName() + " is named", readme.contains("`" + constant.getName() + "`"), true);
        }
    }

    /** Each line with an answer becomes one that looks at it. */
    private static String withAnswersLookedAt(String example) {
        Matcher answer = ANSWER.matcher(example);
        StringBuilder code = new StringBuilder();
        int answers = 0;
        while (answer.find()) {
            answer.appendReplacement(code, "due(\"$1\", $1, $2L);" + lineTold(answer.group()));
            answers++;
        }
        answer.appendTail(code);
        due("answers told", answers, example.split("// ").length - 1);
        return code.toString();
    }

    private static String lineTold(String row) {
        int start = row.indexOf(LINE_TOLD);
        if (start < 0) {
            return "";
        }
        String told = row.substring(start + LINE_TOLD.length(), row.lastIndexOf('"'));
        return "due(\"the line\", line(ship), \"" + told + "\");";
    }

    /** The compiled example comes to the other classes, since it uses what only its own package sees. */
    private static boolean runs(String code) throws ReflectiveOperationException {
        String source = "final class Example extends Expect { static void look() { " + code + " } }";
        String classes = System.getProperty("java.class.path");
        StringWriter told = new StringWriter();
        boolean isCompiled = ToolProvider.getSystemJavaCompiler()
                .getTask(told, null, null, List.of("-d", classes, "-cp", classes), null, List.of(fileOf(source))).call();
        System.out.print(told);
        if (isCompiled) {
            Method look = Class.forName("Example").getDeclaredMethod("look");
            look.setAccessible(true);
            look.invoke(null);
        }
        return isCompiled;
    }

    private static JavaFileObject fileOf(String source) {
        return new SimpleJavaFileObject(URI.create("string:///Example.java"), JavaFileObject.Kind.SOURCE) {
            @Override
            public CharSequence getCharContent(boolean isLenient) {
                return source;
            }
        };
    }
}
