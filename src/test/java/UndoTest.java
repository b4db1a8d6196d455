import java.util.NoSuchElementException;

// Promises 56 to 58.
public final class UndoTest {
  public static void main(String[] args) {
    undoEveryChange();
    undoTheLatestEight();
    undoAndNewChanges();
    undoAndRefusedChanges();
    undoScripts();
    whatUndoLeaves();
    snapshot();
    Due.end();
  }

  private static void undoEveryChange() {
    String[] scripts = {"goblin 3", "broom 7", "hire 0 1 20/5", "night", "banish 0", "recall 0", "lend 0 30", "rest 0",
        "wake 0", "fund 50", "spend 20", "night 7", "hire 0 4 50/20", "cancel 1", "goblin 2", "rest 1", "hire 1 0 2/2",
        "night 3"};
    GoblinHousehold house = new GoblinHousehold();
    for (String script : scripts) {
      String before = Due.state(house);
      house.save();
      Due.run(house, script);
      String after = Due.state(house);
      house.undo();
      Due.same("the state after undo of " + script, Due.state(house), before);
      Due.run(house, script);
      Due.same("the state after " + script + " again", Due.state(house), after);
    }
  }

  private static void undoTheLatestEight() {
    GoblinHousehold house = new GoblinHousehold();
    for (int i = 1; i <= 11; i++) {
      house.fund(i);
    }
    int chest = house.chest();
    for (int left = 7; left >= 0; left--) {
      Due.same("undo()", house.undo(), left);
      chest -= left + 4;
      Due.same("chest()", house.chest(), chest);
    }
    Due.refused("the ninth undo()", NoSuchElementException.class, house::undo);
    Due.same("chest()", house.chest(), 106);
  }

  private static void undoAndNewChanges() {
    GoblinHousehold house = new GoblinHousehold();
    for (int i = 0; i < 10; i++) {
      house.fund(1);
    }
    house.undo();
    house.undo();
    Due.same("undo()", house.undo(), 5);
    house.fund(100);
    Due.same("undo() of the new change", house.undo(), 5);
    Due.same("undo()", house.undo(), 4);
    Due.same("chest()", house.chest(), 106);
    for (int i = 0; i < 9; i++) {
      house.fund(10);
    }
    Due.same("undo() with a full history", house.undo(), 7);
    Due.same("chest()", house.chest(), 186);

    GoblinHousehold hired = new GoblinHousehold();
    hired.addGoblin(1);
    hired.hire(0, 0, 1, 1);
    hired.undo();
    Due.same("the id of the next contract is undone", hired.hire(0, 1, 1, 1), 0);
  }

  private static void undoAndRefusedChanges() {
    GoblinHousehold house = new GoblinHousehold();
    for (int i = 1; i <= 9; i++) {
      house.fund(i);
    }
    Due.outcome(() -> house.fund(0));
    Due.outcome(() -> house.spend(999));
    Due.outcome(() -> house.hire(0, 0, 1, 1));
    Due.run(house, "fund 7;fund 0");
    Due.run(house, "fund ");
    for (int left = 7; left >= 0; left--) {
      Due.same("undo() after refused changes", house.undo(), left);
    }
    Due.same("chest()", house.chest(), 101);
  }

  private static void undoScripts() {
    GoblinHousehold house = new GoblinHousehold();
    house.fund(1);
    String before = Due.state(house);
    Due.same("runScript()", Due.run(house, "goblin 3;hire 0 0 9/2;night 2;rest 0;fund 5"), 5);
    Due.same("undo() of a script as one change", house.undo(), 1);
    Due.same("the state", Due.state(house), before);
    Due.same("undo()", house.undo(), 0);
    Due.same("chest()", house.chest(), 100);
  }

  private static void whatUndoLeaves() {
    GoblinHousehold house = new GoblinHousehold();
    house.addGoblin(3);
    house.save();
    house.fund(5);
    Due.run(house, "x");
    Due.run(house, "night;night 0");
    house.renderGoblin(0);
    Due.type(house, "night 3");
    house.undo();
    house.undo();
    Due.same("goblinCount()", house.goblinCount(), 0);
    Due.same("errorPosition()", house.errorPosition(), 0);
    Due.same("failedCommand()", house.failedCommand(), 1);
    Due.same("the output text", Due.text(house, 5), "0s3p0");
    Due.same("runScript() of what was typed before undo", house.runScript(), 1);
    Due.same("night()", house.night(), 3);
    Due.same("restore()", house.restore(), 0);
    Due.same("goblinCount() of the snapshot", house.goblinCount(), 1);
    Due.same("night()", house.night(), 0);
  }

  private static void snapshot() {
    GoblinHousehold house = new GoblinHousehold();
    Due.refused("restore() without a snapshot", IllegalStateException.class, house::restore);
    house.addGoblin(3);
    house.addBroom(4);
    house.hire(0, 0, 5, 3);
    house.hire(0, 1, 5, 20);
    Due.same("save()", house.save(), 2);
    String saved = Due.state(house);
    Due.same("undo() after save()", house.undo(), 3);
    house.addGoblin(9);
    house.banishBroom(0);
    house.passNights(8);
    Due.type(house, "fun");
    Due.run(house, "!");
    Due.run(house, "spend 0");
    Due.type(house, "night");
    Due.same("restore()", house.restore(), 2);
    Due.same("the state", Due.state(house), saved);
    Due.refused("undo() after restore()", NoSuchElementException.class, house::undo);
    Due.same("errorPosition()", house.errorPosition(), 3);
    Due.same("failedCommand()", house.failedCommand(), 0);
    Due.same("runScript() of what was typed before restore", house.runScript(), 1);
    Due.same("undo()", house.undo(), 0);
    Due.same("the next id of the snapshot", house.hire(0, 3, 1, 1), 2);
    house.passNights(60);
    Due.same("restore() again", house.restore(), 2);
    Due.same("the state", Due.state(house), saved);
    house.cancelContract(0);
    Due.same("save() replaces the snapshot", house.save(), 1);
    String savedLater = Due.state(house);
    house.cancelContract(1);
    Due.same("restore()", house.restore(), 1);
    Due.same("the state", Due.state(house), savedLater);
    Due.same("restore() without changes since", house.restore(), 1);
  }
}
