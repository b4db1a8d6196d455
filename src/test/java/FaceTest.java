import java.lang.reflect.Constructor;
import java.lang.reflect.Field;
import java.lang.reflect.Method;
import java.lang.reflect.Modifier;
import java.nio.file.Files;
import java.nio.file.Path;
import java.util.ArrayList;
import java.util.Arrays;
import java.util.LinkedHashMap;
import java.util.List;
import java.util.Map;
import java.util.TreeSet;
import java.util.regex.Matcher;
import java.util.regex.Pattern;

// The public face, as ../shared/DOC.md shows it, and what ../shared/LANGUAGE.md forbids in the
// file and can be seen from its words.
public final class FaceTest {
  public static void main(String[] args) throws Exception {
    String document = Files.readString(Path.of("../shared/DOC.md"));
    String program = Files.readString(Path.of("src/main/java/GoblinHousehold.java"));
    face(document);
    headings(document, program);
    members();
    language(withoutComments(program));
    Due.end();
  }

  private static void face(String document) {
    TreeSet<String> due = new TreeSet<>();
    String block = document.substring(document.indexOf("public final class"), document.indexOf("## Terms"));
    Matcher line = Pattern.compile("    public (\\w+) (\\w+)\\((.*)\\)(?: throws (.*))?;").matcher(block);
    while (line.find()) {
      String types = line.group(3).replaceAll("(\\w+) \\w+", "$1");
      due.add(line.group(1) + " " + line.group(2) + "(" + types + ") throws " + line.group(4));
    }
    TreeSet<String> got = new TreeSet<>();
    for (Method method : GoblinHousehold.class.getDeclaredMethods()) {
      if (Modifier.isPublic(method.getModifiers())) {
        List<String> types = names(method.getParameterTypes());
        List<String> thrown = names(method.getExceptionTypes());
        got.add(method.getReturnType().getSimpleName() + " " + method.getName() + "(" + String.join(", ", types)
            + ") throws " + (thrown.isEmpty() ? "null" : String.join(", ", thrown)));
      }
    }
    Due.same("the number of methods", got.size(), 57);
    Due.same("the face", got, due);
  }

  /** What the interface says ahead of which calls, as "Terms" has it. */
  private static void headings(String document, String program) {
    Map<String, List<String>> due = new LinkedHashMap<>();
    Matcher sentence = Pattern.compile("Ahead of the calls ([^.]*) the interface says: ([^.]*)\\.").matcher(document);
    while (sentence.find()) {
      due.put(sentence.group(2), Arrays.asList(sentence.group(1).replace("`", "").split(", ")));
    }
    Map<String, List<String>> got = new LinkedHashMap<>();
    for (String part : program.split("    // ---- ")) {
      if (!part.startsWith("import ")) {
        List<String> calls = new ArrayList<>();
        Matcher call = Pattern.compile("(?m)^    public \\w+ (\\w+)\\(").matcher(part);
        while (call.find()) {
          calls.add(call.group(1));
        }
        got.put(part.substring(0, part.indexOf('\n')), calls);
      }
    }
    Due.same("the number of headings", due.size(), 7);
    Due.same("the headings and the calls under them", got.toString(), due.toString());
  }

  private static List<String> names(Class<?>[] classes) {
    List<String> names = new ArrayList<>();
    for (Class<?> each : classes) {
      names.add(each.getSimpleName());
    }
    return names;
  }

  private static void members() {
    Class<?> face = GoblinHousehold.class;
    Due.same("the class is public and final", face.getModifiers(), Modifier.PUBLIC | Modifier.FINAL);
    for (Constructor<?> constructor : face.getDeclaredConstructors()) {
      Due.same("constructor", constructor.toString(), "public GoblinHousehold()");
    }
    TreeSet<String> publicNames = new TreeSet<>();
    for (Method method : face.getDeclaredMethods()) {
      if (Modifier.isPublic(method.getModifiers())) {
        publicNames.add(method.getName());
      }
    }
    for (Method method : face.getDeclaredMethods()) {
      if (!Modifier.isPublic(method.getModifiers()) && !method.isSynthetic()) {
        Due.same(method + " is private", Modifier.isPrivate(method.getModifiers()), true);
        Due.same(method + " bears a public name", publicNames.contains(method.getName()), false);
      }
    }
    fields(face, Modifier.PRIVATE);
    for (Class<?> inside : face.getDeclaredClasses()) {
      Due.same(inside + " is static", Modifier.isStatic(inside.getModifiers()), true);
      Due.same(inside + " is private", Modifier.isPrivate(inside.getModifiers()), true);
      fields(inside, 0);
    }
    Due.same("at most 12 classes", face.getDeclaredClasses().length < 12, true);
  }

  private static void fields(Class<?> owner, int access) {
    int ofObjects = 0;
    for (Field field : owner.getDeclaredFields()) {
      if (Modifier.isStatic(field.getModifiers())) {
        Due.same(field + " is final", Modifier.isFinal(field.getModifiers()), true);
      } else {
        ofObjects++;
        Due.same(field + " has its access", field.getModifiers() & access, access);
      }
    }
    Due.same(owner + " has at most 20 fields", ofObjects <= 20, true);
  }

  private static String withoutComments(String text) {
    return text.replaceAll("(?s)/\\*.*?\\*/", " ").replaceAll("//[^\\n]*", " ").replaceAll("\"[^\"\\n]*\"", "\"\"");
  }

  private static void language(String program) {
    String[] forbidden = {"->", "::", "\\bfinally\\b", "\\bsynchronized\\b", "\\bassert\\b", "\\bpackage\\b",
        "\\bSystem\\.(?!arraycopy)", "Exact\\b", "\\bhashCode\\b", "\"\" \\+", "\\+ \"\"",
        "catch \\([^)]*(Array|NullPointer|Arithmetic|ClassCast|IndexOut|Runtime|Throwable|Error|\\bException)"};
    for (String each : forbidden) {
      Due.same("the file has " + each, Pattern.compile(each).matcher(program).find(), false);
    }
    List<String> imports = new ArrayList<>();
    Matcher line = Pattern.compile("import ([^;]+);").matcher(program);
    while (line.find()) {
      imports.add(line.group(1));
    }
    Due.same("imports", imports, Arrays.asList("java.util.NoSuchElementException"));
    Due.same("signs beyond 127", program.chars().anyMatch(c -> c > 127), false);
  }
}
