import java.io.IOException;
import java.lang.reflect.Constructor;
import java.lang.reflect.Field;
import java.lang.reflect.Method;
import java.lang.reflect.Modifier;
import java.nio.file.Files;
import java.nio.file.Path;
import java.util.ArrayList;
import java.util.List;
import java.util.Set;
import java.util.TreeSet;
import java.util.regex.Matcher;
import java.util.regex.Pattern;

/** The public face, and the rules of LANGUAGE.md that show in the class or its source. */
public final class FaceTest {
  private static final Check CHECK = new Check();
  private static final String[] FACE = {
    "boolean bank()", "boolean mark(int,boolean)", "boolean tell(int,int,boolean)", "boolean tongs(int,int)",
    "boolean undo()", "int age()", "int alight(int)", "int ash(int)", "int banks()", "int caught(int)", "int cell(int)",
    "int chance(int,int,int)", "int count(int)", "int ember(int,int)", "int evening()", "int falls()",
    "int feed(long,long,long)", "int fuel(int,int)", "int grate()", "int hall(int)", "int halls()", "int hour()",
    "int judged(int)", "int kindle()", "int last()", "int lasts()", "int lone()", "int look(int)", "int move(int)",
    "int out(int)", "int peak()", "int poke(int)", "int rests(int,int,int,int)", "int save(int)", "int spare(int)",
    "int stir(int)", "int touch(int)", "int tower()", "int warmest()", "int which()", "int winters(int,int,int)"};

  private static final Set<String> LIBRARY = Set.of("Math.max", "Math.min", "Integer.bitCount", "System.arraycopy");

  public static void main(String[] args) throws IOException {
    face();
    members();
    source(Files.readString(Path.of("src/main/java/EmberLand.java")));
    CHECK.end();
  }

  private static void say(String what, boolean good) {
    CHECK.due(what, good, true);
  }

  private static void face() {
    Set<String> found = new TreeSet<>();
    for (Method m : EmberLand.class.getDeclaredMethods()) {
      if (!Modifier.isPrivate(m.getModifiers())) {
        say("public and not static: " + m, m.getModifiers() == Modifier.PUBLIC);
        found.add(m.getReturnType().getName() + " " + m.getName() + types(m.getParameterTypes()));
      }
    }
    for (String method : FACE) {
      say("has " + method, found.remove(method));
    }
    say("no other method: " + found, found.isEmpty());
    Constructor<?>[] constructors = EmberLand.class.getDeclaredConstructors();
    CHECK.due("constructors", constructors.length, 1);
    say("a public one without arguments", Modifier.isPublic(constructors[0].getModifiers()) && constructors[0].getParameterCount() == 0);
    say("public final class", Modifier.isPublic(EmberLand.class.getModifiers()) && Modifier.isFinal(EmberLand.class.getModifiers()));
    for (Field f : EmberLand.class.getDeclaredFields()) {
      boolean none = f.getName().equals("NONE");
      say("private but for NONE: " + f, none ? Modifier.isPublic(f.getModifiers()) : Modifier.isPrivate(f.getModifiers()));
    }
    CHECK.due("NONE", EmberLand.NONE, -1);
  }

  private static String types(Class<?>[] types) {
    List<String> names = new ArrayList<>();
    for (Class<?> t : types) {
      names.add(t.getName());
    }
    return "(" + String.join(",", names) + ")";
  }

  private static void members() {
    Set<String> faceNames = new TreeSet<>();
    for (String method : FACE) {
      faceNames.add(method.substring(method.indexOf(' ') + 1, method.indexOf('(')));
    }
    List<Class<?>> classes = new ArrayList<>(List.of(EmberLand.class.getDeclaredClasses()));
    say("twelve classes at most", classes.size() + 1 <= 12);
    for (Class<?> c : classes) {
      say("static and not public: " + c, Modifier.isStatic(c.getModifiers()) && !Modifier.isPublic(c.getModifiers()));
    }
    classes.add(EmberLand.class);
    for (Class<?> c : classes) {
      int fields = 0;
      for (Field f : c.getDeclaredFields()) {
        boolean isStatic = Modifier.isStatic(f.getModifiers());
        say("static ones are final: " + f, !isStatic || Modifier.isFinal(f.getModifiers()));
        fields += isStatic ? 0 : 1;
      }
      say("twenty fields at most: " + c, fields <= 20);
      for (Method m : c.getDeclaredMethods()) {
        say("seven parameters at most: " + m, m.getParameterCount() <= 7);
        say("no name of the face: " + m, c == EmberLand.class && Modifier.isPublic(m.getModifiers()) || !faceNames.contains(m.getName()));
      }
    }
  }

  private static void source(String text) {
    String code = text.replaceAll("/\\*\\*.*?\\*/|//[^\n]*", "");
    String[] never = {"->", "::", "\\btry\\b", "\\bcatch\\b", "\\bfinally\\b", "\\bsynchronized\\b", "\\bassert\\b",
      "\\bdouble\\b", "\\bfloat\\b", "\\bordinal\\b", "\\bname\\(\\)", "\\bstatic \\{", "\\binstanceof\\b", "\\bpackage\\b",
      "\\bwhile \\(true\\)", "\\bfor \\(;;\\)", "Exact\\("};
    for (String n : never) {
      say("no " + n, !Pattern.compile(n).matcher(code).find());
    }
    Matcher imports = Pattern.compile("import ([^;]*);").matcher(code);
    while (imports.find()) {
      CHECK.due("import " + imports.group(1), imports.group(1).equals("java.util.NoSuchElementException"), true);
    }
    Matcher made = Pattern.compile("\\bthrow ([^;]*);").matcher(code);
    while (made.find()) {
      CHECK.due("throw " + made.group(1), made.group(1).equals("new NoSuchElementException()"), true);
    }
    Matcher library = Pattern.compile("\\b(?:Math|Integer|Long|System|Arrays|String|Character)\\.\\w+").matcher(code);
    while (library.find()) {
      say("in rule 4: " + library.group(), LIBRARY.contains(library.group()));
    }
    methodLengths(code.split("\n"));
  }

  private static void methodLengths(String[] lines) {
    Pattern opens = Pattern.compile("^ {4}(?: {4})?[A-Za-z][^;=]*\\) (?:throws \\w+ )?\\{$");
    for (int i = 0; i < lines.length; i++) {
      if (!opens.matcher(lines[i]).matches()) {
        continue;
      }
      String indent = lines[i].substring(0, lines[i].indexOf(lines[i].trim()));
      int end = i;
      while (end < lines.length && !lines[end].equals(indent + "}")) {
        end++;
      }
      say("sixty lines at most: " + lines[i].trim(), end - i <= 60);
    }
  }
}
