import java.lang.reflect.InvocationTargetException;
import java.lang.reflect.Method;
import java.util.Arrays;
import java.util.Comparator;
import java.util.HashSet;
import java.util.Set;

// Every sentence of ../shared/DOC.md that names a boundary case has a test of its own, under the very words of the
// sentence, in src/test/boundaries. This runs them all, and finds the sentences that have none.
public final class BoundariesTest {
  private static final Class<?>[] TESTS = {HouseBoundaries.class, NightBoundaries.class, ChangeBoundaries.class,
      GetterBoundaries.class, TotalBoundaries.class, OutputBoundaries.class, ScriptBoundaries.class,
      UndoBoundaries.class};

  public static void main(String[] args) throws Exception {
    Document document = Document.read();
    Set<String> untested = document.boundaries();
    Due.same("the document names boundaries", untested.size() > 100, true);
    for (Class<?> tests : TESTS) {
      Method[] methods = tests.getDeclaredMethods();
      Arrays.sort(methods, Comparator.comparing(Method::getName));
      for (Method method : methods) {
        Sentence sentence = method.getAnnotation(Sentence.class);
        if (sentence != null) {
          Due.same(method + " is of a sentence of the document", document.has(sentence), true);
          untested.remove(sentence.in() + ": " + sentence.says());
          run(method, sentence);
        }
      }
    }
    Due.same("sentences without a test", untested, new HashSet<>());
    Due.end();
  }

  private static void run(Method test, Sentence sentence) throws IllegalAccessException {
    int before = Due.wrongSoFar();
    try {
      test.invoke(null);
    } catch (InvocationTargetException e) {
      Due.same("what " + test.getName() + " ran into", e.getCause().toString(), "nothing");
    }
    if (Due.wrongSoFar() > before) {
      System.out.println("broken, by " + test + ": " + sentence.in() + ": " + sentence.says());
    }
  }
}
