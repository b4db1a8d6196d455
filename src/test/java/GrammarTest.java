import java.io.IOException;
import java.nio.file.Files;
import java.nio.file.Path;
import java.util.NoSuchElementException;

// "Terms" of the scripts, and promises 53 and 54: each way in which a script can go on, as the grammar in the document
// has it, and each sign that can stand there instead.
public final class GrammarTest {
  public static void main(String[] args) throws IOException {
    Grammar grammar = new Grammar(Files.readString(Path.of("../shared/DOC.md")));
    theGrammarIsRead(grammar);
    String[] before = {"", "hire 9 9 999/999;fund 0;"};
    for (String beginning : grammar.beginnings()) {
      for (String commands : before) {
        check(grammar, commands + beginning);
        for (char sign = 32; sign <= 126; sign++) {
          goOn(grammar, commands + beginning + sign);
        }
      }
    }
    Due.end();
  }

  private static void theGrammarIsRead(Grammar grammar) {
    String[] scripts = {"night", "night 60;night", "hire 1 2 3/45;rest 6", "", "night;", "nigh", "hire 1 2 3", "restt 1",
        "fund 1234"};
    int[] due = {-1, -1, -1, 0, 6, 4, 10, 4, 8};
    for (int i = 0; i < scripts.length; i++) {
      Due.same("the grammar for \"" + scripts[i] + "\"", grammar.errorPosition(scripts[i]), due[i]);
    }
  }

  /** Looks at the text, and at what it can be a part of: a script if its last sign fits, otherwise a longer text. */
  private static void goOn(Grammar grammar, String text) {
    check(grammar, text);
    int error = grammar.errorPosition(text);
    boolean lastSignIsWrong = error >= 0 && error < text.length();
    check(grammar, lastSignIsWrong ? text + ";night" : grammar.completed(text));
  }

  private static void check(Grammar grammar, String script) {
    int due = grammar.errorPosition(script);
    GoblinHousehold house = new GoblinHousehold();
    Object outcome = Due.run(house, script);
    Due.same("\"" + script + "\" has the form", outcome != IllegalArgumentException.class, due < 0);
    Due.same("errorPosition() of \"" + script + "\"", Due.outcome(house::errorPosition),
        due < 0 ? NoSuchElementException.class : due);
    if (outcome instanceof Integer) {
      Due.same("the commands of \"" + script + "\"", outcome, script.split(";").length);
    }
  }
}
