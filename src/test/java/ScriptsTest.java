import java.util.NoSuchElementException;

// Promises 52 to 55.
public final class ScriptsTest {
  public static void main(String[] args) {
    type();
    everyCommand();
    errorPositions();
    failedCommands();
    longScripts();
    Due.end();
  }

  private static void type() {
    GoblinHousehold house = new GoblinHousehold();
    for (int wrong : new int[] {0, 10, 31, 127, 128, 255, 256 + 'n', 0xFFFF}) {
      Due.refused("type(" + wrong + ")", IllegalArgumentException.class, () -> house.type((char) wrong));
    }
    Due.same("type(32)", house.type((char) 32), 1);
    Due.same("type(126)", house.type((char) 126), 2);
    for (int length = 3; length <= 60; length++) {
      Due.same("type", house.type('x'), length);
    }
    Due.refused("type of the 61st character", IllegalStateException.class, () -> house.type('x'));
    Due.refused("type of a wrong 61st character", IllegalArgumentException.class, () -> house.type((char) 127));
    Due.refused("runScript()", IllegalArgumentException.class, house::runScript);
    Due.same("type into the empty buffer", house.type('x'), 1);
    Due.refused("runScript()", IllegalArgumentException.class, house::runScript);
    Due.refused("runScript() of nothing", IllegalArgumentException.class, house::runScript);
  }

  private static void same(String script, int commands, GoblinHousehold byCalls) {
    GoblinHousehold byScript = new GoblinHousehold();
    Due.same(script, Due.run(byScript, script), commands);
    Due.same("the state after " + script, Due.state(byScript), Due.state(byCalls));
    Due.same("undo() after " + script, byScript.undo(), 0);
    Due.same("the state after undo of " + script, Due.state(byScript), Due.state(new GoblinHousehold()));
  }

  private static void everyCommand() {
    GoblinHousehold house = new GoblinHousehold();
    house.addGoblin(3);
    house.addGoblin(9);
    house.addBroom(20);
    house.addBroom(7);
    house.banishBroom(1);
    same("goblin 3;goblin 9;broom 20;broom 007;banish 1", 5, house);
    house.recallBroom(1);
    house.hire(1, 5, 50, 20);
    same("goblin 3;goblin 9;broom 20;broom 7;hire 1 5 50/20", 5, house);

    GoblinHousehold lent = new GoblinHousehold();
    lent.addGoblin(2);
    lent.rest(0);
    lent.passNights(1);
    lent.wake(0);
    lent.fund(999);
    lent.spend(12);
    lent.lend(0, 99);
    same("goblin 2;rest 0;night;wake 0;fund 999;spend 12;lend 0 99", 7, lent);

    GoblinHousehold cancelled = new GoblinHousehold();
    cancelled.addGoblin(4);
    cancelled.hire(0, 2, 30, 9);
    cancelled.cancelContract(0);
    cancelled.passNights(60);
    cancelled.passNights(1);
    same("goblin 4;hire 0 2 030/009;cancel 000;night 60;night 1", 5, cancelled);

    GoblinHousehold swept = new GoblinHousehold();
    swept.addBroom(1);
    swept.addBroom(2);
    swept.banishBroom(0);
    swept.banishBroom(1);
    swept.recallBroom(0);
    same("broom 1;broom 2;banish 0;banish 1;recall 0", 5, swept);
  }

  private static void error(String script, int due) {
    GoblinHousehold house = new GoblinHousehold();
    Due.same("runScript() of \"" + script + "\"", Due.run(house, script), IllegalArgumentException.class);
    Due.same("errorPosition() of \"" + script + "\"", Due.outcome(house::errorPosition), due);
    Due.refused("failedCommand()", NoSuchElementException.class, house::failedCommand);
    Due.same("the state", Due.state(house), Due.state(new GoblinHousehold()));
    Due.refused("undo()", NoSuchElementException.class, house::undo);
    Due.same("type after it", house.type('n'), 1);
  }

  private static void errorPositions() {
    String[] forms = {"goblin 1", "broom 123", "banish 1", "recall 1", "hire 1 1 123/123", "cancel 123", "rest 1",
        "wake 1", "lend 1 123", "fund 123", "spend 123", "night 123"};
    for (String form : forms) {
      for (int length = 0; length < form.length(); length++) {
        String begun = form.substring(0, length);
        boolean whole = begun.matches("(broom|cancel|lend 1|fund|spend|night) \\d+|hire 1 1 \\d+/\\d+|night");
        if (!whole) {
          error(begun, length);
        }
        error(begun + "?", length);
      }
      error(form + "1", form.length());
      error(form + " ", form.length());
      error(form + ";", form.length() + 1);
      error(form + ";;", form.length() + 1);
      error(form + "; night", form.length() + 1);
      error(";" + form, 0);
      error(" " + form, 0);
      error(form.toUpperCase(), 0);
    }
    error("", 0);
    error("re", 2);
    error("rec", 3);
    error("rex", 2);
    error("b", 1);
    error("bx", 1);
    error("brx", 2);
    error("bax", 2);
    error("nights", 5);
    error("night ", 6);
    error("night  1", 6);
    error("night -1", 6);
    error("night;night ;", 12);
    error("lend 1/2", 6);
    error("hire 0 0 1 1", 10);
    error("hire 0 0 1/", 11);
    error("hire 0 0 /1", 9);
    error("goblin 9;goblin 10", 17);
    error("fund 0;fund", 11);
  }

  private static void failed(GoblinHousehold house, String script, int due) {
    String before = Due.state(house);
    Due.same("runScript() of \"" + script + "\"", Due.run(house, script), IllegalStateException.class);
    Due.same("failedCommand() of \"" + script + "\"", Due.outcome(house::failedCommand), due);
    Due.same("the state after \"" + script + "\"", Due.state(house), before);
  }

  private static void failedCommands() {
    GoblinHousehold house = new GoblinHousehold();
    failed(house, "goblin 0", 0);
    failed(house, "goblin 3;broom 0", 1);
    failed(house, "goblin 3;broom 21", 1);
    failed(house, "fund 5;night;banish 0", 2);
    failed(house, "broom 3;recall 0", 1);
    failed(house, "broom 3;recall 1", 1);
    failed(house, "hire 0 0 1/1", 0);
    failed(house, "goblin 1;hire 0 6 1/1", 1);
    failed(house, "goblin 1;hire 0 5 51/1", 1);
    failed(house, "goblin 1;hire 0 5 50/21", 1);
    failed(house, "goblin 1;hire 0 5 1/1;hire 0 5 1/1", 2);
    failed(house, "cancel 0", 0);
    failed(house, "goblin 9;hire 0 5 1/1;night;cancel 0", 3);
    failed(house, "rest 0", 0);
    failed(house, "goblin 1;rest 0;rest 0", 2);
    failed(house, "goblin 1;wake 0", 1);
    failed(house, "goblin 1;lend 1 1", 1);
    failed(house, "goblin 1;lend 0 100", 1);
    failed(house, "goblin 1;lend 0 99;lend 0 2", 2);
    failed(house, "fund 000", 0);
    failed(house, "spend 101", 0);
    failed(house, "night 61", 0);
    failed(house, "night 0;night 61", 0);
    Due.refused("undo() after failed scripts", NoSuchElementException.class, house::undo);
    Due.refused("errorPosition()", NoSuchElementException.class, house::errorPosition);
    Due.same("runScript()", Due.run(house, "goblin 1;hire 0 5 1/1"), 2);
    Due.same("failedCommand() after a good script", house.failedCommand(), 0);
    Due.same("the first id, which failed scripts did not use", house.contractAt(0), 0);
    failed(house, "hire 0 4 1/1;cancel 5", 1);
    Due.same("the next id, which the failed script did not use", house.hire(0, 4, 1, 1), 1);
    Due.run(house, "night 61;night;");
    Due.same("errorPosition()", house.errorPosition(), 15);
    Due.same("failedCommand() of a script without the form", house.failedCommand(), 1);
    Due.run(house, "night");
    Due.same("errorPosition() after a good script", house.errorPosition(), 15);
    Due.run(house, "x");
    Due.same("errorPosition() of the latest", house.errorPosition(), 0);
  }

  private static void longScripts() {
    GoblinHousehold house = new GoblinHousehold();
    Due.same("10 commands", Due.run(house, "night;night;night;night;night;night;night;night;night;night"), 10);
    Due.same("night()", house.night(), 10);
    Due.same("60 characters", Due.run(house, "night;night;night;night;night;night;night;night;night;fund 1"), 10);
    Due.same("60 characters with the end too early",
        Due.run(house, "night;night;night;night;night;night;night;night;night;night;"), IllegalArgumentException.class);
    Due.same("errorPosition()", house.errorPosition(), 60);
    Due.same("failing at the tenth", Due.run(house, "night;night;night;night;night;night;night;night;night;fund 0"),
        IllegalStateException.class);
    Due.same("failedCommand()", house.failedCommand(), 9);
    Due.same("night()", house.night(), 19);
  }
}
