import java.io.IOException;
import java.lang.reflect.InvocationTargetException;
import java.lang.reflect.Method;
import java.lang.reflect.Modifier;
import java.nio.file.Files;
import java.nio.file.Path;
import java.util.regex.Matcher;
import java.util.regex.Pattern;

/** The README's example answers what the README says, and the README names each call of the face. */
public final class ReadmeTest {
  private static final Check CHECK = new Check();
  private static final Pattern FED = Pattern.compile("feed\\(land, \"(.*)\"\\);");
  private static final Pattern CALLED = Pattern.compile("land\\.(\\w+)\\(([-\\w, ]*)\\); +// (-?\\w+): .*");

  public static void main(String[] args) throws IOException, ReflectiveOperationException {
    String readme = Files.readString(Path.of("README.md"));
    example(readme);
    table(readme);
    CHECK.end();
  }

  private static void example(String readme) throws ReflectiveOperationException {
    int begin = readme.indexOf("EmberLand land = new EmberLand();");
    CHECK.due("an example is there", begin >= 0, true);
    String[] lines = readme.substring(begin, readme.indexOf("```", begin)).split("\n");
    EmberLand land = new EmberLand();
    for (int i = 1; i < lines.length; i++) {
      Matcher fed = FED.matcher(lines[i]);
      Matcher called = CALLED.matcher(lines[i]);
      if (fed.matches()) {
        Check.feed(land, fed.group(1));
      } else if (called.matches()) {
        CHECK.due(lines[i], answer(land, called.group(1), called.group(2)), called.group(3));
      } else {
        CHECK.due("can be read: " + lines[i], false, true);
      }
    }
  }

  private static String answer(EmberLand land, String name, String written) throws ReflectiveOperationException {
    String[] given = written.isEmpty() ? new String[0] : written.split(", ");
    for (Method method : EmberLand.class.getDeclaredMethods()) {
      if (method.getName().equals(name) && method.getParameterCount() == given.length) {
        Object[] values = new Object[given.length];
        for (int i = 0; i < given.length; i++) {
          boolean isTruth = method.getParameterTypes()[i] == boolean.class;
          values[i] = isTruth ? (Object) Boolean.valueOf(given[i]) : (Object) Integer.valueOf(given[i]);
        }
        try {
          return String.valueOf(method.invoke(land, values));
        } catch (InvocationTargetException thrown) {
          return String.valueOf(thrown.getCause());
        }
      }
    }
    return "no such call";
  }

  private static void table(String readme) {
    for (Method method : EmberLand.class.getDeclaredMethods()) {
      if (Modifier.isPublic(method.getModifiers())) {
        CHECK.due("names " + method.getName(), readme.contains("`" + method.getName() + "`"), true);
      }
    }
  }
}
