import java.util.NoSuchElementException;

/** "Terms" of the changes and the exceptions, and promises 56 to 58. */
final class UndoBoundaries {
  private static final Class<?> INDEX = IndexOutOfBoundsException.class;
  private static final Class<?> ARGUMENT = IllegalArgumentException.class;
  private static final Class<?> STATE = IllegalStateException.class;
  private static final Class<?> UNSUPPORTED = UnsupportedOperationException.class;
  private static final Class<?> ELEMENT = NoSuchElementException.class;

  // Goblin 2 rests, goblin 3 has a debt of 200, broom 1 is banished, 8 contracts are open, and 7 crumbs are in the chest.
  private static final String FULL = "fund 999;goblin 1;goblin 2;goblin 3;goblin 4;goblin 5;broom 5;broom 6;broom 7;broom 8;"
      + "banish 1;hire 0 0 10/20;hire 0 1 20/20;hire 0 2 30/20;hire 1 0 40/20;hire 1 1 50/20;hire 2 0 10/1;hire 2 5 20/20;"
      + "hire 3 5 30/20;lend 3 99;lend 3 99;lend 3 2;rest 2;night;spend 892;";

  // After these 7 changes each of the others can be made.
  private static final String SEVEN = "goblin 3;goblin 9;rest 1;broom 7;broom 8;banish 1;hire 0 1 50/5;";
  private static final String[] CHANGES = {"goblin 5", "broom 20", "banish 0", "recall 1", "hire 1 1 10/5", "cancel 0",
      "rest 0", "wake 1", "lend 1 9", "fund 999", "spend 99", "night 60"};

  private static int undoAll(GoblinHousehold house) {
    int undone = 0;
    while (undone < 100 && Due.outcome(house::undo) instanceof Integer) {
      undone++;
    }
    return undone;
  }

  // Terms

  private static final String CHANGE = "A change is a call of addGoblin, addBroom, banishBroom, recallBroom, hire, "
      + "cancelContract, rest, wake, lend, fund, spend, passNights or runScript that returns normally, even if the state is "
      + "the same afterwards.";

  @Sentence(in = "Terms", says = CHANGE)
  static void changes() {
    Due.same("what can be undone", undoAll(House.of(SEVEN)), 7);
    for (String change : CHANGES) {
      Due.same("what can be undone after " + change, undoAll(House.of(SEVEN + change)), 8);
      GoblinHousehold house = House.of(SEVEN);
      Due.same("runScript()", Due.run(house, change), 1);
      Due.same("what can be undone after a script of " + change, undoAll(house), 8);
    }
  }

  @Sentence(in = "Terms", says = CHANGE)
  static void changesToTheSameState() {
    for (String script : new String[] {"banish 0;recall 0", "recall 1;banish 1", "rest 0;wake 0", "fund 7;spend 7"}) {
      GoblinHousehold house = House.of(SEVEN);
      String before = Due.state(house);
      Due.same("runScript() of " + script, Due.run(house, script), 2);
      Due.same("the state after " + script, Due.state(house), before);
      Due.same("undo() of " + script, house.undo(), 7);
      Due.same("the state after undo()", Due.state(house), before);
      Due.same("undo() of what was before", house.undo(), 6);
      Due.same("openContracts() after it", house.openContracts(), 0);
    }
  }

  @Sentence(in = "Terms", says = CHANGE)
  static void notChanges() {
    GoblinHousehold house = House.of(SEVEN);
    for (Due.Call call : new Due.Call[] {() -> house.addGoblin(0), () -> house.addBroom(0), () -> house.banishBroom(1),
        () -> house.recallBroom(0), () -> house.hire(0, 1, 1, 1), () -> house.cancelContract(1), () -> house.rest(1),
        () -> house.wake(0), () -> house.lend(0, 0), () -> house.fund(0), () -> house.spend(0), () -> house.passNights(0),
        () -> Due.run(house, "fund 1;fund 0"), () -> Due.run(house, "fund 1;x"), house::save, house::isConsistent,
        () -> house.chestAfter(60), () -> house.debtAfter(0, 60), () -> house.nightsUntilDone(0), house::renderContracts,
        () -> house.renderGoblin(0), () -> house.type('n'), house::errorPosition, house::failedCommand,
        () -> house.bestWages(0), () -> house.bestWagesByTable(0), () -> house.outputAt(0)}) {
      Due.outcome(call);
    }
    Due.same("what can be undone after calls that are no changes", undoAll(house), 7);
    Due.same("the state when all is undone", Due.state(house), Due.state(new GoblinHousehold()));
  }

  @Sentence(in = "Terms", says = "The latest 8 changes can be undone, the latest one first.")
  static void latestEight() {
    for (int changes = 0; changes <= 20; changes++) {
      GoblinHousehold house = new GoblinHousehold();
      for (int i = 1; i <= changes; i++) {
        house.fund(i);
      }
      int chest = house.chest();
      int undone = Math.min(changes, 8);
      for (int i = 1; i <= undone; i++) {
        Due.same("undo() number " + i + " after " + changes + " changes", house.undo(), undone - i);
        chest -= changes + 1 - i;
        Due.same("chest() after it", house.chest(), chest);
      }
      Due.refused("undo() beyond them after " + changes + " changes", ELEMENT, house::undo);
      Due.same("chest() after it", house.chest(), chest);
    }
  }

  private static final String COVERED = "Undo and the snapshot cover everything except the script buffer, the error "
      + "position, the index of the failed command, the output text and the snapshot itself; they cover the id of the next "
      + "contract.";

  @Sentence(in = "Terms", says = COVERED)
  static void coveredByUndo() {
    for (String change : CHANGES) {
      Unchanged.answered(7, SEVEN, change + " and undo()", house -> House.go(house, change).undo());
      GoblinHousehold house = House.of(SEVEN + change + ";undo");
      Due.same("the state after " + change + " and undo()", Due.state(house), Due.state(House.of(SEVEN)));
      Due.same("the id after " + change + " and undo()", house.hire(1, 5, 1, 1), 1);
    }
    Unchanged.answered(2, "goblin 1;goblin 9", "six changes and six undo()", house -> House.go(house, "hire 1 0 50/1;"
        + "hire 0 0 1/20;rest 0;spend 90;lend 0 5;night 60;undo;undo;undo;undo;undo").undo());
    GoblinHousehold hired = House.of("goblin 1;hire 0 0 1/1;undo");
    Due.same("the id after an undone contract", hired.hire(0, 5, 1, 1), 0);
  }

  @Sentence(in = "Terms", says = COVERED)
  static void coveredByTheSnapshot() {
    for (String change : CHANGES) {
      GoblinHousehold house = House.of(SEVEN + "save");
      String before = Due.state(house);
      House.go(house, change + ";hire 0 5 1/1;night 9;restore");
      Due.same("the state after " + change + " and restore()", Due.state(house), before);
      Due.same("the id of the next contract after restore()", house.hire(0, 3, 1, 1), 1);
    }
    String saved = "goblin 3;broom 7;hire 0 0 1/2;save;";
    GoblinHousehold others = House.of(saved + "undo;undo;undo;goblin 4;broom 8;hire 0 1 3/4;restore");
    Due.same("the state where others were added since", Due.state(others), Due.state(House.of(saved)));
  }

  @Sentence(in = "Terms", says = COVERED)
  static void notCovered() {
    for (boolean byUndo : new boolean[] {true, false}) {
      GoblinHousehold house = House.of("save;goblin 4");
      if (byUndo) {
        house.save();
      }
      Due.run(house, "night;x");
      Due.run(house, "night;night;fund 0");
      Due.same("renderGoblin(0)", house.renderGoblin(0), 5);
      Due.type(house, "fund 7");
      Due.same("undo() or restore()", byUndo ? house.undo() : house.restore(), 0);
      Due.same("goblinCount()", house.goblinCount(), 0);
      Due.same("the output text", House.output(house), "0s4p0");
      Due.same("errorPosition()", house.errorPosition(), 6);
      Due.same("failedCommand()", house.failedCommand(), 2);
      Due.same("runScript() of what was typed", Due.outcome(house::runScript), 1);
      Due.same("chest()", house.chest(), 107);
      Due.same("restore()", house.restore(), 0);
      Due.same("goblinCount() of the snapshot", house.goblinCount(), byUndo ? 1 : 0);
    }
  }

  private static void refused(Class<?> due, String call, Unchanged.Call made) {
    Unchanged.refused(due, FULL, call, made);
  }

  private static final String NOTHING = "A method that throws an exception changes nothing unless its description says "
      + "otherwise.";

  @Sentence(in = "Terms", says = NOTHING)
  static void refusedChangesChangeNothing() {
    refused(ARGUMENT, "addGoblin(10)", house -> house.addGoblin(10));
    refused(STATE, "addGoblin(1)", house -> house.addGoblin(1));
    refused(ARGUMENT, "addBroom(21)", house -> house.addBroom(21));
    refused(STATE, "addBroom(1)", house -> house.addBroom(1));
    refused(INDEX, "banishBroom(4)", house -> house.banishBroom(4));
    refused(STATE, "banishBroom(1)", house -> house.banishBroom(1));
    refused(INDEX, "recallBroom(4)", house -> house.recallBroom(4));
    refused(STATE, "recallBroom(0)", house -> house.recallBroom(0));
    refused(INDEX, "hire of goblin 5", house -> house.hire(5, 3, 1, 1));
    refused(INDEX, "hire for room 6", house -> house.hire(4, 6, 1, 1));
    refused(ARGUMENT, "hire for 51", house -> house.hire(4, 3, 51, 1));
    refused(ARGUMENT, "hire with 21", house -> house.hire(4, 3, 1, 21));
    refused(STATE, "hire", house -> house.hire(4, 3, 1, 1));
    Unchanged.refused(UNSUPPORTED, FULL + "cancel 0", "hire", house -> house.hire(0, 1, 1, 1));
    refused(ELEMENT, "cancelContract(8)", house -> house.cancelContract(8));
    refused(INDEX, "rest(5)", house -> house.rest(5));
    refused(STATE, "rest(2)", house -> house.rest(2));
    refused(INDEX, "wake(5)", house -> house.wake(5));
    refused(STATE, "wake(0)", house -> house.wake(0));
    refused(INDEX, "lend(5, 1)", house -> house.lend(5, 1));
    refused(ARGUMENT, "lend(0, 0)", house -> house.lend(0, 0));
    refused(UNSUPPORTED, "lend(0, 8) of 7", house -> house.lend(0, 8));
    refused(UNSUPPORTED, "lend(3, 1) beyond 200", house -> house.lend(3, 1));
    refused(ARGUMENT, "fund(1000)", house -> house.fund(1000));
    refused(ARGUMENT, "spend(0)", house -> house.spend(0));
    refused(UNSUPPORTED, "spend(8) of 7", house -> house.spend(8));
    refused(ARGUMENT, "passNights(61)", house -> house.passNights(61));
  }

  @Sentence(in = "Terms", says = NOTHING)
  static void refusedQuestionsChangeNothing() {
    refused(INDEX, "dust(6)", house -> house.dust(6));
    refused(ELEMENT, "roomByDust(6)", house -> house.roomByDust(6));
    refused(INDEX, "power(4)", house -> house.power(4));
    refused(INDEX, "isBanished(4)", house -> house.isBanished(4));
    refused(INDEX, "strength(5)", house -> house.strength(5));
    refused(INDEX, "energy(5)", house -> house.energy(5));
    refused(ELEMENT, "goblinByWealth(5)", house -> house.goblinByWealth(5));
    refused(INDEX, "bestWages(5)", house -> house.bestWages(5));
    refused(INDEX, "bestWagesByTable(5)", house -> house.bestWagesByTable(5));
    refused(ELEMENT, "contractAt(8)", house -> house.contractAt(8));
    refused(ELEMENT, "wage(8)", house -> house.wage(8));
    refused(ELEMENT, "nightsUntilDone(8)", house -> house.nightsUntilDone(8));
    refused(STATE, "nightsUntilDone(0)", house -> house.nightsUntilDone(0));
    refused(STATE, "nightsUntilDone(5) at rest", house -> house.nightsUntilDone(5));
    refused(ARGUMENT, "chestAfter(61)", house -> house.chestAfter(61));
    refused(INDEX, "debtAfter(5, 1)", house -> house.debtAfter(5, 1));
    refused(ARGUMENT, "debtAfter(3, 61)", house -> house.debtAfter(3, 61));
    refused(ArithmeticException.class, "reliability()", GoblinHousehold::reliability);
    refused(INDEX, "renderGoblin(5)", house -> house.renderGoblin(5));
    refused(INDEX, "outputAt(9)", house -> house.outputAt(9));
    refused(ARGUMENT, "type(31)", house -> house.type((char) 31));
    Unchanged.refused(ELEMENT, "", "undo()", GoblinHousehold::undo);
  }

  @Sentence(in = "Terms", says = NOTHING)
  static void refusedScriptsChangeNothing() {
    String[] scripts = {"cancel 0;rest 0;wake 2;lend 0 6;night 3;fund 0", "cancel 0;rest 0;wake 2;lend 0 6;night 3;x"};
    for (String script : scripts) {
      GoblinHousehold house = House.of(FULL);
      Due.run(house, script);
      GoblinHousehold same = House.of(FULL);
      Due.same("errorPosition()", Due.outcome(house::errorPosition), script.endsWith("x") ? 40 : ELEMENT);
      Due.same("failedCommand()", Due.outcome(house::failedCommand), script.endsWith("x") ? ELEMENT : 5);
      for (int left = 8; left >= 0; left--) {
        Due.same("the state before " + left + " undone", Due.state(house), Due.state(same));
        Due.same("undo()", Due.outcome(house::undo), Due.outcome(same::undo));
      }
    }
    GoblinHousehold house = House.of(FULL);
    String before = Due.state(house);
    Due.refused("restore() without a snapshot", STATE, house::restore);
    Due.same("the state after it", Due.state(house), before);
    Due.same("undo() after it", house.undo(), 7);
  }

  @Sentence(in = "Terms", says = "If several exceptions apply, the one that is listed first is thrown.")
  static void firstListed() {
    refused(ARGUMENT, "addGoblin(0) as the sixth", house -> house.addGoblin(0));
    refused(ARGUMENT, "addBroom(0) as the fifth", house -> house.addBroom(0));
    refused(INDEX, "hire of nobody for nothing as the ninth", house -> house.hire(5, 3, 0, 1));
    refused(INDEX, "hire of nobody as the ninth", house -> house.hire(5, 3, 1, 1));
    refused(INDEX, "hire for no room for nothing as the ninth", house -> house.hire(0, 6, 0, 1));
    refused(INDEX, "hire for no room as the ninth", house -> house.hire(0, 6, 1, 1));
    refused(ARGUMENT, "hire for nothing as the ninth", house -> house.hire(4, 3, 0, 1));
    refused(ARGUMENT, "hire with no effort as the ninth for the same room", house -> house.hire(0, 0, 1, 0));
    refused(STATE, "hire as the ninth for the same room", house -> house.hire(0, 0, 1, 1));
    Unchanged.refused(ARGUMENT, FULL + "cancel 7", "hire for nothing for the same room", house -> house.hire(0, 0, 0, 1));
    Unchanged.refused(INDEX, FULL + "cancel 7", "hire of nobody for nothing", house -> house.hire(-1, 0, 0, 1));
    refused(INDEX, "lend(5, 0)", house -> house.lend(5, 0));
    refused(INDEX, "lend(5, 99) of 7", house -> house.lend(5, 99));
    refused(INDEX, "lend(-1, 100)", house -> house.lend(-1, 100));
    refused(ARGUMENT, "lend(0, 100) of 7", house -> house.lend(0, 100));
    refused(ARGUMENT, "lend(3, 100) beyond 200", house -> house.lend(3, 100));
    refused(ARGUMENT, "lend(3, 0) with a debt of 200", house -> house.lend(3, 0));
    refused(ARGUMENT, "spend(1000) of 7", house -> house.spend(1000));
    refused(INDEX, "debtAfter(5, 61)", house -> house.debtAfter(5, 61));
    refused(INDEX, "debtAfter(-1, -1)", house -> house.debtAfter(-1, -1));
    GoblinHousehold house = new GoblinHousehold();
    Due.type(house, "night;night;night;night;night;night;night;night;night;night;");
    Due.refused("type(127) as the 61st character", ARGUMENT, () -> house.type((char) 127));
    Due.refused("type(31) as the 61st character", ARGUMENT, () -> house.type((char) 31));
    Due.refused("type(32) as the 61st character", STATE, () -> house.type((char) 32));
    Due.same("runScript() of a failing command without the form", Due.run(new GoblinHousehold(), "fund 0;x"), ARGUMENT);
  }

  // Promise 56

  @Sentence(in = "Promise 56", says = "Undoes the latest change that has not been undone.")
  static void latestNotUndone() {
    GoblinHousehold house = House.of("fund 1;fund 2;fund 4;undo;fund 8");
    Due.same("undo() of the latest", house.undo(), 2);
    Due.same("chest()", house.chest(), 103);
    Due.same("undo() of the one before the undone one", house.undo(), 1);
    Due.same("chest()", house.chest(), 101);
    Due.same("undo() of a change after two undone", House.go(house, "fund 16").undo(), 1);
    Due.same("chest()", house.chest(), 101);
    Due.same("undo() of the first", house.undo(), 0);
    Due.same("chest()", house.chest(), 100);
  }

  @Sentence(in = "Promise 56", says = "Returns the number of changes that can still be undone.")
  static void stillUndone() {
    Due.same("undo() of one", House.of("fund 1").undo(), 0);
    Due.same("undo() of two", House.of("fund 1;fund 1").undo(), 1);
    Due.same("undo() of eight", House.of("fund 1;fund 1;fund 1;fund 1;fund 1;fund 1;fund 1;fund 1").undo(), 7);
    Due.same("undo() of nine", House.of("fund 1;fund 1;fund 1;fund 1;fund 1;fund 1;fund 1;fund 1;fund 1").undo(), 7);
    Due.same("undo() of one with one undone", House.of("fund 1;fund 1;undo").undo(), 0);
    Due.same("undo() of one after restore()", House.of("fund 1;fund 1;save;restore;fund 1").undo(), 0);
    Due.same("undo() of two after save()", House.of("fund 1;save;fund 1").undo(), 1);
  }

  @Sentence(in = "Promise 56", says = "Throws NoSuchElementException if there is nothing to undo")
  static void nothingToUndo() {
    Due.refused("undo() of a new house", ELEMENT, new GoblinHousehold()::undo);
    Unchanged.refused(ELEMENT, "", "undo()", GoblinHousehold::undo);
    Unchanged.refused(ELEMENT, "fund 1;undo", "undo()", GoblinHousehold::undo);
    Unchanged.refused(ELEMENT, "goblin 1;lend 0 9;save;restore", "undo()", GoblinHousehold::undo);
    Unchanged.refused(ELEMENT, "fund 1;fund 1;fund 1;fund 1;fund 1;fund 1;fund 1;fund 1;fund 1;undo;undo;undo;undo;undo;undo;"
        + "undo;undo", "undo()", GoblinHousehold::undo);
    GoblinHousehold house = new GoblinHousehold();
    Due.outcome(() -> house.fund(0));
    Due.run(house, "fund 1;fund 0");
    Due.refused("undo() of refused changes", ELEMENT, house::undo);
  }

  // Promises 57 and 58

  @Sentence(in = "Promise 57", says = "Takes a snapshot, which replaces an earlier one.")
  static void replacedSnapshot() {
    GoblinHousehold house = House.of("fund 1;save;fund 2;save;fund 4");
    Due.same("restore()", house.restore(), 0);
    Due.same("chest() of the later one", house.chest(), 103);
    Due.same("chest() of the later one again", House.go(house, "fund 8;restore").chest(), 103);
    Due.same("chest() of a third one", House.go(house, "fund 16;save;fund 32;restore").chest(), 119);
  }

  @Sentence(in = "Promise 57", says = "Returns the number of open contracts.")
  static void openWhenSaved() {
    Due.same("save() of a new house", new GoblinHousehold().save(), 0);
    Due.same("save() of one contract", House.of(SEVEN).save(), 1);
    Due.same("save() of eight contracts", House.of(FULL).save(), 8);
    Due.same("save() after a done one", House.of(SEVEN + "night").save(), 0);
  }

  @Sentence(in = "Promise 58", says = "Restores the snapshot, which is kept.")
  static void keptSnapshot() {
    GoblinHousehold house = House.of(FULL + "save");
    String saved = Due.state(house);
    for (String change : new String[] {"cancel 0;hire 4 4 1/1", "night 60", "fund 7", "", "recall 1;banish 0;wake 2"}) {
      House.go(house, change);
      Due.same("restore() after \"" + change + "\"", house.restore(), 8);
      Due.same("the state after it", Due.state(house), saved);
    }
    GoblinHousehold empty = House.of("save");
    House.go(empty, FULL);
    Due.same("restore() of a new house", empty.restore(), 0);
    Due.same("the state after it", Due.state(empty), Due.state(new GoblinHousehold()));
    Due.same("the first id after it", House.go(empty, "goblin 1").hire(0, 0, 1, 1), 0);
    Due.same("restore() when all is undone", House.of("save;fund 1;undo").restore(), 0);
  }

  @Sentence(in = "Promise 58", says = "Afterwards there is nothing to undo.")
  static void nothingToUndoAfterwards() {
    for (String steps : new String[] {"save", SEVEN + "save", FULL + "save", "save;" + FULL, FULL + "save;fund 1"}) {
      GoblinHousehold house = House.of(steps);
      house.restore();
      Due.refused("undo() after restore() after \"" + steps + "\"", ELEMENT, house::undo);
      int chest = house.chest();
      Due.same("undo() of a change after it", House.go(house, "fund 5").undo(), 0);
      Due.same("chest() after it", house.chest(), chest);
    }
  }

  @Sentence(in = "Promise 58", says = "Returns the number of open contracts.")
  static void openWhenRestored() {
    Due.same("restore() of a house without contracts", House.of("save;" + FULL).restore(), 0);
    Due.same("restore() of one contract", House.of(SEVEN + "save;night").restore(), 1);
    Due.same("restore() of eight contracts", House.of(FULL + "save;cancel 0;cancel 1").restore(), 8);
  }

  @Sentence(in = "Promise 58", says = "Throws IllegalStateException if there is no snapshot")
  static void noSnapshot() {
    Due.refused("restore() of a new house", STATE, new GoblinHousehold()::restore);
    GoblinHousehold house = House.of("goblin 1;lend 0 9");
    String before = Due.state(house);
    Due.refused("restore()", STATE, house::restore);
    Due.same("the state after it", Due.state(house), before);
    Due.same("undo() after it", house.undo(), 1);
    Due.same("restore() with a snapshot", House.go(house, "save").restore(), 0);
  }
}
