import java.util.NoSuchElementException;

/** "Terms" of the scripts, and promises 52 to 55. */
final class ScriptBoundaries {
  private static final Class<?> ARGUMENT = IllegalArgumentException.class;
  private static final Class<?> STATE = IllegalStateException.class;
  private static final Class<?> ELEMENT = NoSuchElementException.class;
  private static final String[] LONGEST = {"goblin 1", "broom 123", "banish 1", "recall 1", "hire 1 1 123/123",
      "cancel 123", "rest 1", "wake 1", "lend 1 123", "fund 123", "spend 123", "night 123"};
  private static final String BEGUN_AND_WHOLE = "(broom|cancel|lend 1|fund|spend|night) \\d+|hire 1 1 \\d+/\\d+|night";
  private static final String NINE_NIGHTS = "night;night;night;night;night;night;night;night;night;";

  /** Whether the script has the form: if it has not, this also looks at its error position. */
  private static void form(String script, boolean due) {
    GoblinHousehold house = new GoblinHousehold();
    Object outcome = Due.run(house, script);
    Due.same("\"" + script + "\" has the form", outcome != ARGUMENT, due);
    Due.same("\"" + script + "\" has an error position", Due.outcome(house::errorPosition) != ELEMENT, !due);
  }

  private static void error(String script, int due) {
    GoblinHousehold house = new GoblinHousehold();
    Due.same("runScript() of \"" + script + "\"", Due.run(house, script), ARGUMENT);
    Due.same("errorPosition() of \"" + script + "\"", Due.outcome(house::errorPosition), due);
  }

  private static void same(String script, int commands) {
    GoblinHousehold house = new GoblinHousehold();
    Due.same("runScript() of \"" + script + "\"", Due.run(house, script), commands);
    Due.same("the state after \"" + script + "\"", Due.state(house), Due.state(House.of(script)));
  }

  private static void failed(String steps, String script, int due) {
    GoblinHousehold house = House.of(steps);
    String before = Due.state(house);
    Due.same("runScript() of \"" + script + "\"", Due.run(house, script), STATE);
    Due.same("failedCommand() of \"" + script + "\"", Due.outcome(house::failedCommand), due);
    Due.same("the state after \"" + script + "\"", Due.state(house), before);
  }

  // Terms

  @Sentence(in = "Terms", says = "A script is typed into a buffer of at most 60 characters and then run.")
  static void sixtyCharacters() {
    String sixty = NINE_NIGHTS + "fund 1";
    Due.same("the length of the script", sixty.length(), 60);
    GoblinHousehold house = new GoblinHousehold();
    for (int i = 0; i < 60; i++) {
      Due.same("type", house.type(sixty.charAt(i)), i + 1);
    }
    Due.refused("type of the 61st character", STATE, () -> house.type('2'));
    Due.refused("type of the 61st character again", STATE, () -> house.type(';'));
    Due.same("runScript() of 60 characters", house.runScript(), 10);
    Due.same("night()", house.night(), 9);
    Due.same("chest(), by the last character", house.chest(), 101);
    Due.same("type after it", house.type('n'), 1);
  }

  @Sentence(in = "Terms", says = "It has the form below, where braces mean zero or more repetitions, brackets an optional "
      + "part, and a bar an alternative.")
  static void formOfAScript() {
    for (String each : LONGEST) {
      form(each, true);
      form(each + ";" + each, true);
      form(each + ";", false);
      form(";" + each, false);
      form(each + "0", false);
      form(each.replaceAll("123", "1"), true);
      form(each.replaceAll("123", "12"), true);
      form(each.replaceFirst("\\d+", ""), false);
      form(each.replaceFirst("\\d+$", ""), false);
      form(each.replaceFirst(" ", "  "), false);
      form(each.replaceFirst(" ", ""), false);
      form(each.replaceFirst("\\d", "0"), true);
      form(each.replaceFirst("\\d", "9"), true);
      form(each.replaceFirst("\\d", "/"), false);
      form(each.replaceFirst("\\d", ":"), false);
      form(each.replaceFirst("\\d", "-"), false);
    }
    for (String digit : new String[] {"goblin 12", "banish 12", "recall 12", "rest 12", "wake 12", "lend 12 1",
        "hire 12 1 1/1", "hire 1 12 1/1"}) {
      form(digit, false);
    }
    form("night", true);
    form("night;night 7;night", true);
    form("night ", false);
    form("night ;night", false);
    form("rest 0", true);
    form("wake 0", true);
    form("fund 000", true);
    form("", false);
    form(";", false);
    form("hire 0 0 1 1", false);
    form("hire 0 0/1 1", false);
    form("lend 0/1", false);
    form("night,night", false);
    form("night; night", false);
    form("Night", false);
    form("nights", false);
  }

  @Sentence(in = "Terms", says = "The commands stand for addGoblin, addBroom, banishBroom, recallBroom, hire (goblin, room, "
      + "wage, effort), cancelContract, rest, wake, lend, fund, spend and passNights, with the arguments in the same order; "
      + "night without a number passes 1 night.")
  static void commands() {
    same("goblin 1;goblin 9;hire 1 5 50/20;hire 1 0 1/2", 4);
    same("broom 1;broom 20;banish 1;banish 0;recall 1", 5);
    same("goblin 2;hire 0 0 10/1;hire 0 1 20/20;cancel 1;cancel 000", 5);
    same("goblin 3;goblin 4;rest 0;rest 1;night;wake 0;night 002", 7);
    same("goblin 5;goblin 6;lend 1 99;fund 999;spend 999;lend 0 1", 6);
    same("night", 1);
    same("night 1", 1);
    same("night 60", 1);
    same("fund 1;spend 101;fund 009", 3);
    Due.same("night() after \"night\"", runInNew("night").night(), 1);
    Due.same("night() after \"night;night 2;night\"", runInNew("night;night 2;night").night(), 4);
  }

  private static GoblinHousehold runInNew(String script) {
    GoblinHousehold house = new GoblinHousehold();
    Due.same("runScript() of \"" + script + "\"", Due.run(house, script) instanceof Integer, true);
    return house;
  }

  @Sentence(in = "Terms", says = "The commands are executed in order, and either all of them take effect or none.")
  static void allOrNone() {
    same("goblin 1;rest 0;night;wake 0", 4);
    failed("", "rest 0;goblin 1", 0);
    failed("", NINE_NIGHTS + "fund 0", 9);
    failed("", "goblin 1;broom 2;lend 0 9;hire 0 0 1/1;night;fund 1;broom 0", 6);
    failed("goblin 1;lend 0 9;hire 0 0 1/1;hire 0 1 1/9", "cancel 1;night 7;rest 0;broom 1;banish 0;night 3;wake 1", 6);
    GoblinHousehold house = House.of("goblin 1");
    Due.same("runScript()", Due.run(house, "hire 0 0 1/1;hire 0 0 1/1"), STATE);
    Due.same("the next id, which the script did not use up", house.hire(0, 0, 1, 1), 0);
    Due.same("undo(), to which the script added nothing", house.undo(), 1);
  }

  @Sentence(in = "Terms", says = "The error position of a script that does not have this form is the index of the first "
      + "character that cannot continue any script of this form, or the length of the script if every character can and "
      + "the end comes too early.")
  static void errorPositions() {
    for (String each : LONGEST) {
      for (int length = 0; length < each.length(); length++) {
        error(each.substring(0, length) + "?", length);
        error("night;" + each.substring(0, length) + "?", 6 + length);
        if (!each.substring(0, length).matches(BEGUN_AND_WHOLE)) {
          error(each.substring(0, length), length);
        }
      }
      error(each + "1", each.length());
      error(each + ";", each.length() + 1);
      error(each + ";;", each.length() + 1);
      error(each + " ", each.length());
    }
    error("", 0);
    error("?", 0);
    error(";", 0);
    error("re", 2);
    error("rew", 2);
    error("resc", 3);
    error("recs", 3);
    error("b", 1);
    error("broon", 4);
    error("bai", 2);
    error("night ", 6);
    error("nightn", 5);
    error("night;", 6);
    error("night;x", 6);
    error("hire 0 0 1", 10);
    error("hire 0 0 123", 12);
    error("hire 0 0 1234/1", 12);
    error("hire 0 0 1/", 11);
    error("hire 0 0 1/1234", 14);
    error("cancel 1234", 10);
    error("lend 0 1234", 10);
    error("goblin 10", 8);
    error("?night", 0);
    error(NINE_NIGHTS + "night;", 60);
    error(NINE_NIGHTS + "fund ;", 59);
    error(NINE_NIGHTS + "night?", 59);
    error(NINE_NIGHTS + "fund  ", 59);
    error(NINE_NIGHTS + "fund ", 59);
  }

  // Promise 52

  @Sentence(in = "Promise 52", says = "Throws IllegalArgumentException if the character code is not between 32 and 126")
  static void characterCodes() {
    for (int code = 32; code <= 126; code++) {
      Due.same("type of " + code, new GoblinHousehold().type((char) code), 1);
    }
    int[] wrong = {0, 9, 10, 13, 30, 31, 127, 128, 160, 255, 256 + 32, 256 + 126, 32768 + 'n', 65535 - 1, 65535};
    for (int code : wrong) {
      Unchanged.refused(ARGUMENT, "goblin 1", "type of " + code, house -> house.type((char) code));
    }
  }

  @Sentence(in = "Promise 52", says = "Throws IllegalStateException if the script buffer has 60 characters")
  static void fullBuffer() {
    GoblinHousehold house = new GoblinHousehold();
    Due.type(house, NINE_NIGHTS + "fund ");
    Due.same("type of the 60th character", house.type('7'), 60);
    Due.refused("type of the 61st character", STATE, () -> house.type('0'));
    Due.same("runScript(), which the 61st is no part of", house.runScript(), 10);
    Due.same("chest()", house.chest(), 107);
    for (int length = 1; length <= 60; length++) {
      Due.same("type", house.type((char) (length % 2 == 0 ? 126 : 32)), length);
    }
    Due.refused("type of the 61st character", STATE, () -> house.type((char) 32));
    Due.refused("type of the 61st character", STATE, () -> house.type((char) 126));
    Due.refused("runScript()", ARGUMENT, house::runScript);
    Due.same("type into the empty buffer", house.type('x'), 1);
  }

  // Promise 53

  @Sentence(in = "Promise 53", says = "The buffer is empty afterwards, also if an exception is thrown.")
  static void emptyAfterwards() {
    String[] scripts = {"", "night", "x", "night;x", "night;", "fund 0", "night;fund 0", NINE_NIGHTS + "fund 1",
        NINE_NIGHTS + "fund 0", NINE_NIGHTS + "fund x"};
    for (String script : scripts) {
      GoblinHousehold house = new GoblinHousehold();
      Due.run(house, script);
      int night = house.night();
      Due.same("runScript() after \"" + script + "\"", Due.outcome(house::runScript), ARGUMENT);
      Due.same("errorPosition() of the empty buffer", house.errorPosition(), 0);
      Due.same("runScript() of \"night\"", Due.run(house, "night"), 1);
      Due.same("night()", house.night(), night + 1);
    }
  }

  @Sentence(in = "Promise 53", says = "Returns the number of commands.")
  static void numberOfCommands() {
    for (int commands = 1; commands <= 10; commands++) {
      String script = NINE_NIGHTS.substring(0, 6 * (commands - 1)) + "night";
      Due.same("runScript() of \"" + script + "\"", Due.run(new GoblinHousehold(), script), commands);
    }
  }

  @Sentence(in = "Promise 53", says = "Throws IllegalArgumentException if the script does not have the required form; "
      + "errorPosition then returns its error position")
  static void withoutTheForm() {
    String[] scripts = {"", "x", "night;", "night;fund 1x", "fund 1;goblin 10", "fund 0;x"};
    int[] due = {0, 0, 6, 12, 15, 7};
    for (int i = 0; i < scripts.length; i++) {
      GoblinHousehold house = House.of("goblin 1;fund 1");
      String before = Due.state(house);
      Due.same("runScript() of \"" + scripts[i] + "\"", Due.run(house, scripts[i]), ARGUMENT);
      Due.same("errorPosition() of \"" + scripts[i] + "\"", house.errorPosition(), due[i]);
      Due.refused("failedCommand() of \"" + scripts[i] + "\"", ELEMENT, house::failedCommand);
      Due.same("the state after \"" + scripts[i] + "\"", Due.state(house), before);
      Due.same("undo() after \"" + scripts[i] + "\"", house.undo(), 1);
    }
  }

  @Sentence(in = "Promise 53", says = "Throws IllegalStateException if the method for a command throws an exception; no "
      + "command takes effect, and failedCommand then returns the index of that command")
  static void failedMethods() {
    String five = "goblin 1;goblin 1;goblin 1;goblin 1;goblin 1;";
    String four = "broom 1;broom 2;broom 3;broom 4;";
    String[][] runs = {{"", "goblin 0"}, {five, "goblin 1"}, {"", "broom 0"}, {"", "broom 21"}, {four, "broom 1"},
        {"broom 1", "banish 1"}, {"broom 1;banish 0", "banish 0"}, {"broom 1", "recall 1"}, {"broom 1", "recall 0"},
        {"goblin 1", "hire 1 0 1/1"}, {"goblin 1", "hire 0 6 1/1"}, {"goblin 1", "hire 0 0 0/1"},
        {"goblin 1", "hire 0 0 51/1"}, {"goblin 1", "hire 0 0 1/0"}, {"goblin 1", "hire 0 0 1/21"},
        {"goblin 1;hire 0 0 1/1", "hire 0 0 1/1"}, {"goblin 1", "cancel 0"}, {"goblin 1;hire 0 0 1/1;night", "cancel 0"},
        {"goblin 1", "rest 1"}, {"goblin 1;rest 0", "rest 0"}, {"goblin 1", "wake 1"}, {"goblin 1", "wake 0"},
        {"goblin 1", "lend 1 1"}, {"goblin 1", "lend 0 0"}, {"goblin 1", "lend 0 100"}, {"goblin 1;spend 10", "lend 0 91"},
        {"fund 999;goblin 1;lend 0 99;lend 0 99", "lend 0 3"}, {"", "fund 0"}, {"", "spend 0"}, {"", "spend 101"},
        {"", "night 0"}, {"", "night 61"}, {"", "night 999"}};
    for (String[] run : runs) {
      failed(run[0], run[1], 0);
      failed(run[0], run[1] + ";night", 0);
      failed(run[0], "fund 1;spend 1;" + run[1], 2);
    }
    failed("", "fund 1;spend 102;fund 0", 1);
    failed("spend 100", "fund 1;fund 1;spend 3", 2);
    failed("goblin 1;goblin 1;hire 0 0 1/1;hire 0 1 1/1;hire 0 2 1/1;hire 0 3 1/1;hire 0 4 1/1;hire 0 5 1/1;hire 1 0 1/1",
        "hire 1 1 1/1;hire 1 2 1/1", 1);
    failed("", NINE_NIGHTS + "rest 0", 9);
  }

  // Promises 54 and 55

  @Sentence(in = "Promise 54", says = "Returns the error position of the latest script that did not have the required form.")
  static void latestError() {
    GoblinHousehold house = new GoblinHousehold();
    Due.run(house, "night;x");
    Due.same("errorPosition()", house.errorPosition(), 6);
    Due.run(house, "nigx");
    Due.same("errorPosition() of the latest", house.errorPosition(), 3);
    Due.run(house, "night");
    Due.run(house, "fund 0");
    Due.type(house, "x");
    House.go(house, "undo;save;restore");
    Due.same("errorPosition() after scripts with the form", house.errorPosition(), 3);
    Due.refused("runScript() of what was typed", ARGUMENT, house::runScript);
    Due.same("errorPosition() of the latest", house.errorPosition(), 0);
  }

  @Sentence(in = "Promise 54", says = "Throws NoSuchElementException if there was no such script")
  static void noError() {
    Due.refused("errorPosition() of a new house", ELEMENT, new GoblinHousehold()::errorPosition);
    GoblinHousehold house = new GoblinHousehold();
    Due.type(house, "night;x");
    Due.refused("errorPosition() before the script is run", ELEMENT, house::errorPosition);
    GoblinHousehold failing = new GoblinHousehold();
    Due.run(failing, "night");
    Due.run(failing, "night;fund 0");
    Due.refused("errorPosition() of scripts with the form", ELEMENT, failing::errorPosition);
    Due.run(failing, "");
    Due.same("errorPosition() of a script of no character", failing.errorPosition(), 0);
  }

  @Sentence(in = "Promise 55", says = "Returns the index of the command that failed in the latest script with a failed "
      + "command.")
  static void latestFailed() {
    GoblinHousehold house = new GoblinHousehold();
    Due.run(house, "night;night;fund 0");
    Due.same("failedCommand()", house.failedCommand(), 2);
    Due.run(house, "night;fund 0");
    Due.same("failedCommand() of the latest", house.failedCommand(), 1);
    Due.run(house, "night;night");
    Due.run(house, "fund 0;x");
    House.go(house, "undo;save;restore");
    Due.same("failedCommand() after scripts without a failed one", house.failedCommand(), 1);
  }

  @Sentence(in = "Promise 55", says = "Returns the index of the command, counted from 0.")
  static void failedFromZero() {
    for (int before = 0; before <= 9; before++) {
      GoblinHousehold house = new GoblinHousehold();
      Due.run(house, NINE_NIGHTS.substring(0, 6 * before) + "fund 0");
      Due.same("failedCommand() behind " + before + " commands", Due.outcome(house::failedCommand), before);
    }
  }

  @Sentence(in = "Promise 55", says = "Throws NoSuchElementException if there was no such script")
  static void noFailed() {
    Due.refused("failedCommand() of a new house", ELEMENT, new GoblinHousehold()::failedCommand);
    GoblinHousehold house = new GoblinHousehold();
    Due.outcome(() -> house.fund(0));
    Due.run(house, "night");
    Due.run(house, "fund 0;x");
    Due.type(house, "fund 0");
    Due.refused("failedCommand() of scripts without a failed one", ELEMENT, house::failedCommand);
    Due.refused("runScript()", STATE, house::runScript);
    Due.same("failedCommand() of the first command", house.failedCommand(), 0);
  }
}
