import java.io.IOException;
import java.net.URL;
import java.net.URLClassLoader;
import java.nio.file.Files;
import java.nio.file.Path;
import java.util.ArrayList;
import java.util.List;
import java.util.regex.Matcher;
import java.util.regex.Pattern;

// The use that README.md shows: its Java is compiled and run as one program, and each call there must answer or throw
// what stands behind it.
public final class ReadmeTest {
  private static final Pattern LINE =
      Pattern.compile("(?:int (\\w+) = )?(.*);\\s+// (answers|throws) ([^\\s:,]+).*");

  private final StringBuilder program = new StringBuilder();
  private final List<String> calls = new ArrayList<>();
  private final List<String> due = new ArrayList<>();

  public static void main(String[] args) throws Exception {
    ReadmeTest test = new ReadmeTest();
    Matcher block = Pattern.compile("(?s)```java\n(.*?)```").matcher(Files.readString(Path.of("README.md")));
    while (block.find()) {
      for (String line : block.group(1).split("\n")) {
        test.add(line);
      }
    }
    List<Object> got = new ArrayList<>();
    test.run(got);
    Due.same("README.md shows calls", test.calls.size() > 20, true);
    Due.same("the number of calls that were made", got.size(), test.calls.size());
    for (int i = 0; i < got.size(); i++) {
      Due.same("in README.md " + test.calls.get(i), got.get(i).toString(), test.due.get(i));
    }
    Due.end();
  }

  private void add(String line) {
    Matcher shown = LINE.matcher(line);
    if (!shown.matches()) {
      program.append(line).append("\n");
      return;
    }
    String variable = shown.group(1);
    String call = shown.group(2);
    calls.add(call);
    due.add(shown.group(4));
    if (shown.group(3).equals("throws")) {
      program.append("try { got.add(" + call + "); } catch (RuntimeException e) { "
          + "got.add(e.getClass().getSimpleName()); }\n");
    } else if (variable == null) {
      program.append("got.add(" + call + ");\n");
    } else {
      program.append("int " + variable + " = " + call + "; got.add(" + variable + ");\n");
    }
  }

  private void run(List<Object> got) throws Exception {
    Path directory = Files.createTempDirectory("readme");
    Path source = directory.resolve("ReadmeProgram.java");
    try {
      Files.writeString(source, "public class ReadmeProgram { public static void run(java.util.List<Object> got) {\n"
          + program + "} }\n");
      Process javac = new ProcessBuilder("javac", "-cp", System.getProperty("java.class.path"), "-d",
          directory.toString(), source.toString()).inheritIO().start();
      Due.same("javac of the Java in README.md", javac.waitFor(), 0);
      try (URLClassLoader loader = new URLClassLoader(new URL[] {directory.toUri().toURL()})) {
        loader.loadClass("ReadmeProgram").getMethod("run", List.class).invoke(null, got);
      }
    } finally {
      remove(directory);
    }
  }

  private static void remove(Path directory) throws IOException {
    Files.deleteIfExists(directory.resolve("ReadmeProgram.java"));
    Files.deleteIfExists(directory.resolve("ReadmeProgram.class"));
    Files.delete(directory);
  }
}
