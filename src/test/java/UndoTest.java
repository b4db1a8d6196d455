import java.util.NoSuchElementException;

// Promises 56 to 58.
public final class UndoTest {
  public static void main(String[] args) {
    undoEveryChange();
    undoEveryScript();
    undoTheLatestEight();
    undoAndNewChanges();
    undoAndRefusedChanges();
    undoScripts();
    whatUndoLeaves();
    snapshot();
    Due.end();
  }

  private static GoblinHousehold busy() {
    GoblinHousehold house = new GoblinHousehold();
    house.addGoblin(3);
    house.addGoblin(9);
    house.rest(1);
    house.addBroom(7);
    house.addBroom(8);
    house.banishBroom(1);
    house.spend(60);
    house.lend(0, 20);
    house.hire(0, 1, 50, 5);
    house.hire(1, 1, 10, 5);
    return house;
  }

  private static void undone(String call, GoblinHousehold house, Due.Call made) {
    String before = Due.state(house);
    Due.same(call + " returns normally", made.answer() instanceof Integer, true);
    Due.same("undo() after " + call, house.undo(), 7);
    Due.same("the state after undo of " + call, Due.state(house), before);
  }

  private static void undoEveryChange() {
    GoblinHousehold[] houses = new GoblinHousehold[12];
    for (int i = 0; i < houses.length; i++) {
      houses[i] = busy();
    }
    undone("addGoblin", houses[0], () -> houses[0].addGoblin(2));
    undone("addBroom", houses[1], () -> houses[1].addBroom(20));
    undone("banishBroom", houses[2], () -> houses[2].banishBroom(0));
    undone("recallBroom", houses[3], () -> houses[3].recallBroom(1));
    undone("hire", houses[4], () -> houses[4].hire(1, 2, 3, 4));
    undone("cancelContract", houses[5], () -> houses[5].cancelContract(0));
    undone("rest", houses[6], () -> houses[6].rest(0));
    undone("wake", houses[7], () -> houses[7].wake(1));
    undone("lend", houses[8], () -> houses[8].lend(1, 5));
    undone("fund", houses[9], () -> houses[9].fund(77));
    undone("spend", houses[10], () -> houses[10].spend(7));
    undone("passNights", houses[11], () -> houses[11].passNights(7));
    Due.same("the id of the next contract", houses[4].hire(0, 0, 1, 1), 2);
  }

  private static void undoEveryScript() {
    String[] scripts = {"goblin 3", "broom 7", "hire 0 1 20/5", "night", "banish 0", "recall 0", "lend 0 30", "rest 0",
        "wake 0", "fund 50", "spend 20", "night 7", "hire 0 4 50/20", "cancel 1", "goblin 2", "rest 1", "hire 1 0 2/2",
        "night 3"};
    GoblinHousehold house = new GoblinHousehold();
    for (String script : scripts) {
      String before = Due.state(house);
      house.save();
      Due.run(house, script);
      String after = Due.state(house);
      house.undo();
      Due.same("the state after undo of " + script, Due.state(house), before);
      Due.run(house, script);
      Due.same("the state after " + script + " again", Due.state(house), after);
    }
  }

  private static void undoTheLatestEight() {
    GoblinHousehold house = new GoblinHousehold();
    for (int i = 1; i <= 11; i++) {
      house.fund(i);
    }
    int chest = house.chest();
    for (int left = 7; left >= 0; left--) {
      Due.same("undo()", house.undo(), left);
      chest -= left + 4;
      Due.same("chest()", house.chest(), chest);
    }
    Due.refused("the ninth undo()", NoSuchElementException.class, house::undo);
    Due.same("chest()", house.chest(), 106);
  }

  private static void undoAndNewChanges() {
    GoblinHousehold house = new GoblinHousehold();
    for (int i = 0; i < 10; i++) {
      house.fund(1);
    }
    house.undo();
    house.undo();
    Due.same("undo()", house.undo(), 5);
    house.fund(100);
    Due.same("undo() of the new change", house.undo(), 5);
    Due.same("undo()", house.undo(), 4);
    Due.same("chest()", house.chest(), 106);
    for (int i = 0; i < 9; i++) {
      house.fund(10);
    }
    Due.same("undo() with a full history", house.undo(), 7);
    Due.same("chest()", house.chest(), 186);

    GoblinHousehold hired = new GoblinHousehold();
    hired.addGoblin(1);
    hired.hire(0, 0, 1, 1);
    hired.undo();
    Due.same("the id of the next contract is undone", hired.hire(0, 1, 1, 1), 0);
  }

  private static void undoAndRefusedChanges() {
    GoblinHousehold house = new GoblinHousehold();
    for (int i = 1; i <= 9; i++) {
      house.fund(i);
    }
    Due.outcome(() -> house.fund(0));
    Due.outcome(() -> house.spend(999));
    Due.outcome(() -> house.hire(0, 0, 1, 1));
    Due.run(house, "fund 7;fund 0");
    Due.run(house, "fund ");
    for (int left = 7; left >= 0; left--) {
      Due.same("undo() after refused changes", house.undo(), left);
    }
    Due.same("chest()", house.chest(), 101);
  }

  private static void undoScripts() {
    GoblinHousehold house = new GoblinHousehold();
    house.fund(1);
    String before = Due.state(house);
    Due.same("runScript()", Due.run(house, "goblin 3;hire 0 0 9/2;night 2;rest 0;fund 5"), 5);
    Due.same("undo() of a script as one change", house.undo(), 1);
    Due.same("the state", Due.state(house), before);
    Due.same("undo()", house.undo(), 0);
    Due.same("chest()", house.chest(), 100);
  }

  private static void whatUndoLeaves() {
    GoblinHousehold house = new GoblinHousehold();
    house.addGoblin(3);
    house.save();
    house.fund(5);
    Due.run(house, "x");
    Due.run(house, "night;night 0");
    house.renderGoblin(0);
    Due.type(house, "night 3");
    house.undo();
    house.undo();
    Due.same("goblinCount()", house.goblinCount(), 0);
    Due.same("errorPosition()", house.errorPosition(), 0);
    Due.same("failedCommand()", house.failedCommand(), 1);
    Due.same("the output text", Due.text(house, 5), "0s3p0");
    Due.same("runScript() of what was typed before undo", house.runScript(), 1);
    Due.same("night()", house.night(), 3);
    Due.same("restore()", house.restore(), 0);
    Due.same("goblinCount() of the snapshot", house.goblinCount(), 1);
    Due.same("night()", house.night(), 0);
  }

  private static void snapshot() {
    GoblinHousehold house = new GoblinHousehold();
    Due.refused("restore() without a snapshot", IllegalStateException.class, house::restore);
    house.addGoblin(3);
    house.addBroom(4);
    house.hire(0, 0, 5, 3);
    house.hire(0, 1, 5, 20);
    Due.same("save()", house.save(), 2);
    String saved = Due.state(house);
    Due.same("undo() after save()", house.undo(), 3);
    house.addGoblin(9);
    house.banishBroom(0);
    house.passNights(8);
    Due.type(house, "fun");
    Due.run(house, "!");
    Due.run(house, "spend 0");
    Due.type(house, "night");
    Due.same("restore()", house.restore(), 2);
    Due.same("the state", Due.state(house), saved);
    Due.refused("undo() after restore()", NoSuchElementException.class, house::undo);
    Due.same("errorPosition()", house.errorPosition(), 3);
    Due.same("failedCommand()", house.failedCommand(), 0);
    Due.same("runScript() of what was typed before restore", house.runScript(), 1);
    Due.same("undo()", house.undo(), 0);
    Due.same("the next id of the snapshot", house.hire(0, 3, 1, 1), 2);
    house.passNights(60);
    Due.same("restore() again", house.restore(), 2);
    Due.same("the state", Due.state(house), saved);
    house.cancelContract(0);
    Due.same("save() replaces the snapshot", house.save(), 1);
    String savedLater = Due.state(house);
    house.cancelContract(1);
    Due.same("restore()", house.restore(), 1);
    Due.same("the state", Due.state(house), savedLater);
    Due.same("restore() without changes since", house.restore(), 1);

    GoblinHousehold other = busy();
    other.save();
    String savedBusy = Due.state(other);
    for (int i = 0; i < 8; i++) {
      other.undo();
    }
    other.addGoblin(1);
    other.addBroom(1);
    other.addBroom(1);
    other.hire(2, 5, 1, 1);
    other.passNights(9);
    other.restore();
    Due.same("the state where others were added since", Due.state(other), savedBusy);
  }
}
