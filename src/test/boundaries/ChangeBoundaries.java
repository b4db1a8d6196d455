import java.util.NoSuchElementException;

/** Promises 2 to 13. */
final class ChangeBoundaries {
  private static final Class<?> INDEX = IndexOutOfBoundsException.class;
  private static final Class<?> ARGUMENT = IllegalArgumentException.class;
  private static final Class<?> STATE = IllegalStateException.class;
  private static final Class<?> UNSUPPORTED = UnsupportedOperationException.class;
  private static final Class<?> ELEMENT = NoSuchElementException.class;
  private static final String FOUR_BROOMS = "broom 1;broom 2;broom 3;broom 4;";

  private interface CallForOne {
    Object on(GoblinHousehold house, int index);
  }

  private static void noSuch(String steps, int count, String name, CallForOne call) {
    for (int index : House.outside(0, count - 1)) {
      Unchanged.refused(INDEX, steps, name + "(" + index + ")", house -> call.on(house, index));
    }
  }

  // Promise 2

  @Sentence(in = "Promise 2", says = "Throws IllegalArgumentException if the strength is not between 1 and 9")
  static void strengthOfAGoblin() {
    for (int strength : House.outside(1, 9)) {
      Unchanged.refused(ARGUMENT, "goblin 4", "addGoblin(" + strength + ")", house -> house.addGoblin(strength));
    }
    for (int strength = 1; strength <= 9; strength++) {
      GoblinHousehold house = new GoblinHousehold();
      Due.same("addGoblin(" + strength + ")", house.addGoblin(strength), 0);
      Due.same("strength(0)", house.strength(0), strength);
    }
  }

  @Sentence(in = "Promise 2", says = "Throws IllegalStateException if there are 5 goblins")
  static void fiveGoblins() {
    Due.same("the fifth addGoblin", House.of("goblin 1;goblin 2;goblin 3;goblin 4").addGoblin(9), 4);
    Unchanged.refused(STATE, House.FIVE_GOBLINS, "addGoblin(1)", house -> house.addGoblin(1));
    Unchanged.refused(STATE, House.FIVE_GOBLINS, "addGoblin(9)", house -> house.addGoblin(9));
    Due.same("addGoblin when the fifth is undone", House.of(House.FIVE_GOBLINS + "undo").addGoblin(9), 4);
  }

  // Promise 3

  @Sentence(in = "Promise 3", says = "Throws IllegalArgumentException if the power is not between 1 and 20")
  static void powerOfABroom() {
    for (int power : House.outside(1, 20)) {
      Unchanged.refused(ARGUMENT, "broom 4", "addBroom(" + power + ")", house -> house.addBroom(power));
    }
    for (int power = 1; power <= 20; power++) {
      GoblinHousehold house = new GoblinHousehold();
      Due.same("addBroom(" + power + ")", house.addBroom(power), 0);
      Due.same("power(0)", house.power(0), power);
    }
  }

  @Sentence(in = "Promise 3", says = "Throws IllegalStateException if there are 4 brooms")
  static void fourBrooms() {
    Due.same("the fourth addBroom", House.of("broom 1;broom 2;broom 3").addBroom(20), 3);
    Unchanged.refused(STATE, FOUR_BROOMS, "addBroom(1)", house -> house.addBroom(1));
    Unchanged.refused(STATE, FOUR_BROOMS + "banish 3", "addBroom(20)", house -> house.addBroom(20));
    Due.same("addBroom when the fourth is undone", House.of(FOUR_BROOMS + "undo").addBroom(20), 3);
  }

  // Promise 4

  @Sentence(in = "Promise 4", says = "Returns the number of brooms that are in use.")
  static void inUseAfterBanish() {
    GoblinHousehold house = House.of(FOUR_BROOMS);
    Due.same("banishBroom", house.banishBroom(3), 3);
    Due.same("banishBroom", house.banishBroom(0), 2);
    Due.same("banishBroom", house.banishBroom(2), 1);
    Due.same("banishBroom of the last in use", house.banishBroom(1), 0);
    Due.same("energy(0) without a broom in use", House.go(house, "goblin 7").energy(0), 7);
  }

  @Sentence(in = "Promise 4", says = "Throws IndexOutOfBoundsException if there is no such broom")
  static void noBroomToBanish() {
    noSuch("", 0, "banishBroom", GoblinHousehold::banishBroom);
    noSuch("broom 7", 1, "banishBroom", GoblinHousehold::banishBroom);
    noSuch(FOUR_BROOMS, 4, "banishBroom", GoblinHousehold::banishBroom);
    noSuch("broom 7;broom 8;undo", 1, "banishBroom", GoblinHousehold::banishBroom);
    Due.same("banishBroom(0)", House.of(FOUR_BROOMS).banishBroom(0), 3);
    Due.same("banishBroom(3)", House.of(FOUR_BROOMS).banishBroom(3), 3);
  }

  @Sentence(in = "Promise 4", says = "Throws IllegalStateException if it is banished")
  static void banishTwice() {
    Unchanged.refused(STATE, "broom 7;banish 0", "banishBroom(0)", house -> house.banishBroom(0));
    Unchanged.refused(STATE, FOUR_BROOMS + "banish 3", "banishBroom(3)", house -> house.banishBroom(3));
    Due.same("banishBroom(2)", House.of(FOUR_BROOMS + "banish 3").banishBroom(2), 2);
    Due.same("banishBroom(3)", House.of(FOUR_BROOMS + "banish 3;recall 3").banishBroom(3), 3);
  }

  // Promise 5

  @Sentence(in = "Promise 5", says = "Returns the number of brooms that are in use.")
  static void inUseAfterRecall() {
    GoblinHousehold house = House.of(FOUR_BROOMS + "banish 0;banish 1;banish 2;banish 3");
    Due.same("recallBroom of the first", house.recallBroom(2), 1);
    Due.same("recallBroom", house.recallBroom(0), 2);
    Due.same("recallBroom", house.recallBroom(3), 3);
    Due.same("recallBroom of the last", house.recallBroom(1), 4);
  }

  @Sentence(in = "Promise 5", says = "Throws IndexOutOfBoundsException if there is no such broom")
  static void noBroomToRecall() {
    noSuch("", 0, "recallBroom", GoblinHousehold::recallBroom);
    noSuch("broom 7;banish 0", 1, "recallBroom", GoblinHousehold::recallBroom);
    noSuch(FOUR_BROOMS, 4, "recallBroom", GoblinHousehold::recallBroom);
    noSuch("broom 7;broom 8;banish 1;undo;undo", 1, "recallBroom", GoblinHousehold::recallBroom);
    Due.same("recallBroom(0)", House.of(FOUR_BROOMS + "banish 0").recallBroom(0), 4);
    Due.same("recallBroom(3)", House.of(FOUR_BROOMS + "banish 3").recallBroom(3), 4);
  }

  @Sentence(in = "Promise 5", says = "Throws IllegalStateException if it is in use")
  static void recallInUse() {
    Unchanged.refused(STATE, "broom 7", "recallBroom(0)", house -> house.recallBroom(0));
    Unchanged.refused(STATE, FOUR_BROOMS + "banish 2", "recallBroom(3)", house -> house.recallBroom(3));
    Unchanged.refused(STATE, "broom 7;banish 0;recall 0", "recallBroom(0)", house -> house.recallBroom(0));
  }

  // Promise 6

  @Sentence(in = "Promise 6", says = "Throws IndexOutOfBoundsException if there is no such goblin or no such room")
  static void nobodyToHire() {
    noSuch("", 0, "hire for room 0 of goblin ", (house, goblin) -> house.hire(goblin, 0, 1, 1));
    noSuch("goblin 1", 1, "hire for room 0 of goblin ", (house, goblin) -> house.hire(goblin, 0, 1, 1));
    noSuch(House.FIVE_GOBLINS, 5, "hire for room 5 of goblin ", (house, goblin) -> house.hire(goblin, 5, 1, 1));
    noSuch(House.FIVE_GOBLINS, 6, "hire of goblin 4 for room ", (house, room) -> house.hire(4, room, 1, 1));
    for (int goblin = 0; goblin < 5; goblin++) {
      Due.same("hire for room 0", House.of(House.FIVE_GOBLINS).hire(goblin, 0, 1, 1), 0);
      Due.same("hire for room 5", House.of(House.FIVE_GOBLINS).hire(goblin, 5, 1, 1), 0);
    }
  }

  @Sentence(in = "Promise 6", says = "Throws IllegalArgumentException if the wage is not between 1 and 50, or the effort "
      + "is not between 1 and 20")
  static void wageAndEffort() {
    for (int wage : House.outside(1, 50)) {
      Unchanged.refused(ARGUMENT, "goblin 1", "hire for wage " + wage, house -> house.hire(0, 0, wage, 1));
      Unchanged.refused(ARGUMENT, "goblin 1", "hire for wage " + wage, house -> house.hire(0, 0, wage, 20));
    }
    for (int effort : House.outside(1, 20)) {
      Unchanged.refused(ARGUMENT, "goblin 1", "hire with effort " + effort, house -> house.hire(0, 0, 1, effort));
      Unchanged.refused(ARGUMENT, "goblin 1", "hire with effort " + effort, house -> house.hire(0, 0, 50, effort));
    }
    int[][] accepted = {{1, 1}, {1, 20}, {50, 1}, {50, 20}};
    for (int[] each : accepted) {
      GoblinHousehold house = House.of("goblin 1");
      Due.same("hire", house.hire(0, 0, each[0], each[1]), 0);
      Due.same("wage(0)", house.wage(0), each[0]);
      Due.same("effort(0)", house.effort(0), each[1]);
    }
  }

  @Sentence(in = "Promise 6", says = "Throws IllegalStateException if 8 contracts are open")
  static void eightAreOpen() {
    String seven = "goblin 1;goblin 1;hire 0 0 1/1;hire 0 1 1/1;hire 0 2 1/1;hire 0 3 1/1;hire 0 4 1/1;hire 0 5 1/1;"
        + "hire 1 0 1/1;";
    Due.same("the eighth hire", House.of(seven).hire(1, 5, 1, 1), 7);
    Unchanged.refused(STATE, seven + "hire 1 1 1/1", "hire", house -> house.hire(1, 2, 1, 1));
    Due.same("hire after a cancelled one", House.of(seven + "hire 1 1 1/1;cancel 0").hire(1, 2, 1, 1), 8);
  }

  @Sentence(in = "Promise 6",
      says = "Throws UnsupportedOperationException if the goblin has an open contract for this room")
  static void roomOfTheGoblin() {
    String two = "goblin 1;goblin 2;hire 0 5 1/1;hire 1 0 1/2;";
    Unchanged.refused(UNSUPPORTED, two, "hire of 0 for 5", house -> house.hire(0, 5, 50, 20));
    Unchanged.refused(UNSUPPORTED, two, "hire of 1 for 0", house -> house.hire(1, 0, 1, 1));
    Due.same("hire of another for 5", House.of(two).hire(1, 5, 1, 1), 2);
    Due.same("hire for another room", House.of(two).hire(0, 0, 1, 1), 2);
    Due.same("hire after a done one", House.of(two + "night").hire(0, 5, 1, 1), 2);
    Due.same("hire after a cancelled one", House.of(two + "cancel 0").hire(0, 5, 1, 1), 2);
    Due.same("hire after a broken one", House.of(two + "rest 0;night 3").hire(0, 5, 1, 1), 2);
    Due.same("hire after an undone one", House.of(two + "undo").hire(1, 0, 1, 1), 1);
    Unchanged.refused(UNSUPPORTED, two + "rest 0;night 2", "hire of 0 for 5", house -> house.hire(0, 5, 1, 1));
  }

  // Promise 7

  @Sentence(in = "Promise 7", says = "The goblin gets a tenth of the wage, rounded down, from the chest into its purse, "
      + "but at most what is in the chest.")
  static void tenthOfTheWage() {
    int[] wages = {1, 9, 10, 19, 20, 49, 50, 50, 50, 50, 50, 9};
    int[] chests = {100, 100, 100, 100, 100, 100, 100, 6, 5, 4, 0, 0};
    int[] due = {0, 0, 1, 1, 2, 4, 5, 5, 5, 4, 0, 0};
    for (int i = 0; i < wages.length; i++) {
      GoblinHousehold house = House.of("goblin 1;goblin 1;hire 1 0 " + wages[i] + "/1"
          + (chests[i] == 100 ? "" : ";spend " + (100 - chests[i])));
      String call = "cancelContract for " + wages[i] + " with " + chests[i];
      Due.same(call, house.cancelContract(0), due[i]);
      Due.same("purse after " + call, House.row(house::purse), "0 " + due[i]);
      Due.same("chest() after " + call, house.chest(), chests[i] - due[i]);
      Due.same("openContracts() after " + call, house.openContracts(), 0);
    }
    GoblinHousehold inDebt = House.of("goblin 1;lend 0 3;hire 0 0 50/1;cancel 0");
    Due.same("the debt, which is no part of this", inDebt.debt(0), 3);
    Due.same("purse(0)", inDebt.purse(0), 8);
  }

  @Sentence(in = "Promise 7", says = "Throws NoSuchElementException if there is no open contract with this id")
  static void nothingToCancel() {
    String three = "goblin 1;hire 0 0 1/1;hire 0 1 1/20;hire 0 2 1/20;";
    noSuchContract("", 0);
    noSuchContract(three, 3, -1, -65536, Integer.MIN_VALUE, Integer.MAX_VALUE, 65536, 256);
    noSuchContract(three + "night", 0);
    noSuchContract(three + "cancel 0", 0);
    noSuchContract(three + "rest 0;night 3", 0, 1, 2, 3);
    noSuchContract(three + "undo", 2);
    Due.same("cancelContract(0)", House.of(three).cancelContract(0), 0);
    Due.same("cancelContract(2)", House.of(three).cancelContract(2), 0);
    Due.same("cancelContract of one at rest", House.of(three + "rest 0;night 2").cancelContract(2), 0);
  }

  private static void noSuchContract(String steps, int... ids) {
    for (int id : ids) {
      Unchanged.refused(ELEMENT, steps, "cancelContract(" + id + ")", house -> house.cancelContract(id));
    }
  }

  // Promise 8

  @Sentence(in = "Promise 8", says = "Returns the number of goblins that rest.")
  static void numberAtRest() {
    GoblinHousehold house = House.of(House.FIVE_GOBLINS);
    Due.same("rest(4)", house.rest(4), 1);
    Due.same("rest(0)", house.rest(0), 2);
    Due.same("rest(2)", house.rest(2), 3);
    Due.same("rest(1)", house.rest(1), 4);
    Due.same("rest(3), all of them", house.rest(3), 5);
    Due.same("rest(2), one woken", House.go(house, "wake 0;wake 2").rest(2), 4);
  }

  @Sentence(in = "Promise 8", says = "Throws IndexOutOfBoundsException if there is no such goblin")
  static void nobodyToRest() {
    noSuch("", 0, "rest", GoblinHousehold::rest);
    noSuch("goblin 1;goblin 2;undo", 1, "rest", GoblinHousehold::rest);
    noSuch(House.FIVE_GOBLINS, 5, "rest", GoblinHousehold::rest);
    Due.same("rest(0)", House.of(House.FIVE_GOBLINS).rest(0), 1);
    Due.same("rest(4)", House.of(House.FIVE_GOBLINS).rest(4), 1);
  }

  @Sentence(in = "Promise 8", says = "Throws IllegalStateException if it rests")
  static void restTwice() {
    Unchanged.refused(STATE, "goblin 1;rest 0", "rest(0)", house -> house.rest(0));
    Unchanged.refused(STATE, House.FIVE_GOBLINS + "rest 4;night 9", "rest(4)", house -> house.rest(4));
    Due.same("rest(4) when it was woken", House.of(House.FIVE_GOBLINS + "rest 4;night 9;wake 4").rest(4), 1);
  }

  // Promise 9

  @Sentence(in = "Promise 9", says = "Returns the number of its skipped nights.")
  static void skippedWhenWoken() {
    Due.same("wake(0) at once", House.of("goblin 1;rest 0").wake(0), 0);
    Due.same("wake(0) after a night", House.of("goblin 1;rest 0;night").wake(0), 1);
    Due.same("wake(0) after 60 nights", House.of("goblin 1;rest 0;night 60").wake(0), 60);
    Due.same("wake(0) after nights of another", House.of("goblin 1;goblin 1;rest 1;night 4;rest 0").wake(0), 0);
    Due.same("wake(0) again before it worked", House.of("goblin 1;rest 0;night 2;wake 0;rest 0").wake(0), 2);
  }

  @Sentence(in = "Promise 9", says = "Throws IndexOutOfBoundsException if there is no such goblin")
  static void nobodyToWake() {
    noSuch("", 0, "wake", GoblinHousehold::wake);
    noSuch("goblin 1;goblin 2;rest 1;undo;undo", 1, "wake", GoblinHousehold::wake);
    noSuch(House.FIVE_GOBLINS, 5, "wake", GoblinHousehold::wake);
    Due.same("wake(0)", House.of(House.FIVE_GOBLINS + "rest 0").wake(0), 0);
    Due.same("wake(4)", House.of(House.FIVE_GOBLINS + "rest 4").wake(4), 0);
  }

  @Sentence(in = "Promise 9", says = "Throws IllegalStateException if it does not rest")
  static void wakeAwake() {
    Unchanged.refused(STATE, "goblin 1", "wake(0)", house -> house.wake(0));
    Unchanged.refused(STATE, House.FIVE_GOBLINS + "rest 3;night", "wake(4)", house -> house.wake(4));
    Unchanged.refused(STATE, "goblin 1;rest 0;night 3;wake 0", "wake(0)", house -> house.wake(0));
  }

  // Promise 10

  @Sentence(in = "Promise 10", says = "Throws IndexOutOfBoundsException if there is no such goblin")
  static void nobodyToLendTo() {
    noSuch("", 0, "lend 1 to ", (house, goblin) -> house.lend(goblin, 1));
    noSuch("goblin 1;goblin 2;undo", 1, "lend 1 to ", (house, goblin) -> house.lend(goblin, 1));
    noSuch(House.FIVE_GOBLINS, 5, "lend 1 to ", (house, goblin) -> house.lend(goblin, 1));
    Due.same("lend(0, 7)", House.of(House.FIVE_GOBLINS).lend(0, 7), 7);
    Due.same("lend(4, 7)", House.of(House.FIVE_GOBLINS).lend(4, 7), 7);
  }

  @Sentence(in = "Promise 10", says = "Throws IllegalArgumentException if the number of crumbs is not between 1 and 99")
  static void crumbsToLend() {
    for (int crumbs : House.outside(1, 99)) {
      Unchanged.refused(ARGUMENT, "fund 999;goblin 1", "lend(0, " + crumbs + ")", house -> house.lend(0, crumbs));
    }
    Due.same("lend(0, 1)", House.of("goblin 1").lend(0, 1), 1);
    Due.same("lend(0, 99)", House.of("goblin 1").lend(0, 99), 99);
  }

  @Sentence(in = "Promise 10", says = "Throws UnsupportedOperationException if fewer crumbs are in the chest, or the "
      + "debt would be greater than 200")
  static void chestAndDebt() {
    Unchanged.refused(UNSUPPORTED, "goblin 1;spend 100", "lend(0, 1)", house -> house.lend(0, 1));
    Unchanged.refused(UNSUPPORTED, "goblin 1;spend 70", "lend(0, 31)", house -> house.lend(0, 31));
    Due.same("lend(0, 30) of 30", House.of("goblin 1;spend 70").lend(0, 30), 30);
    Due.same("chest() after it", House.of("goblin 1;spend 70;lend 0 30").chest(), 0);
    Due.same("lend(0, 29) of 30", House.of("goblin 1;spend 70").lend(0, 29), 29);
    String twice = "fund 999;goblin 1;goblin 1;lend 0 99;lend 0 99;";
    Due.same("lend up to a debt of 199", House.of(twice).lend(0, 1), 199);
    Due.same("lend up to a debt of 200", House.of(twice).lend(0, 2), 200);
    Unchanged.refused(UNSUPPORTED, twice, "lend up to a debt of 201", house -> house.lend(0, 3));
    Unchanged.refused(UNSUPPORTED, twice, "lend up to a debt of 297", house -> house.lend(0, 99));
    Unchanged.refused(UNSUPPORTED, twice + "lend 0 2", "lend with a debt of 200", house -> house.lend(0, 1));
    Unchanged.refused(UNSUPPORTED, twice + "night 7", "lend with a debt of 218", house -> house.lend(0, 1));
    Due.same("lend to another", House.of(twice + "night 7").lend(1, 99), 99);
    Due.same("lend when some is paid off", House.of(twice + "hire 0 0 50/1;night").lend(0, 52), 200);
  }

  // Promise 11

  @Sentence(in = "Promise 11", says = "Throws IllegalArgumentException if the number of crumbs is not between 1 and 999")
  static void crumbsToFund() {
    for (int crumbs : House.outside(1, 999)) {
      Unchanged.refused(ARGUMENT, "", "fund(" + crumbs + ")", house -> house.fund(crumbs));
    }
    Due.same("fund(1)", House.of("").fund(1), 101);
    Due.same("fund(999)", House.of("").fund(999), 1099);
    Due.same("fund(1) of an empty chest", House.of("spend 100").fund(1), 1);
  }

  // Promise 12

  @Sentence(in = "Promise 12", says = "Throws IllegalArgumentException if the number of crumbs is not between 1 and 999")
  static void crumbsToSpend() {
    for (int crumbs : House.outside(1, 999)) {
      Unchanged.refused(ARGUMENT, "fund 999;fund 999", "spend(" + crumbs + ")", house -> house.spend(crumbs));
    }
    Due.same("spend(1)", House.of("").spend(1), 99);
    Due.same("spend(999)", House.of("fund 999").spend(999), 100);
  }

  @Sentence(in = "Promise 12", says = "Throws UnsupportedOperationException if fewer crumbs are in the chest")
  static void fewerToSpend() {
    Unchanged.refused(UNSUPPORTED, "", "spend(101)", house -> house.spend(101));
    Unchanged.refused(UNSUPPORTED, "", "spend(999)", house -> house.spend(999));
    Unchanged.refused(UNSUPPORTED, "spend 100", "spend(1)", house -> house.spend(1));
    Unchanged.refused(UNSUPPORTED, "goblin 1;lend 0 60", "spend(41)", house -> house.spend(41));
    Due.same("spend(100)", House.of("").spend(100), 0);
    Due.same("spend(99)", House.of("").spend(99), 1);
    Due.same("spend(40)", House.of("goblin 1;lend 0 60").spend(40), 0);
  }

  // Promise 13

  @Sentence(in = "Promise 13", says = "Returns the number of contracts that are done in these nights.")
  static void doneInTheseNights() {
    Due.same("passNights(60) without goblins", House.of("").passNights(60), 0);
    String three = "goblin 1;goblin 1;hire 0 0 1/1;hire 0 1 1/1;hire 1 0 1/1;";
    Due.same("passNights(1)", House.of(three).passNights(1), 2);
    Due.same("passNights(60)", House.of(three).passNights(60), 3);
    Due.same("passNights(2) after one", House.of(three + "night").passNights(2), 1);
    Due.same("passNights(3) when those of goblin 0 break", House.of(three + "rest 0").passNights(3), 1);
    Due.same("passNights(1) after a cancelled one", House.of(three + "cancel 2").passNights(1), 1);
    Due.same("passNights(60) when all are done", House.of(three + "night 2").passNights(60), 0);
  }

  @Sentence(in = "Promise 13", says = "Throws IllegalArgumentException if the number of nights is not between 1 and 60")
  static void nightsToPass() {
    for (int nights : House.outside(1, 60)) {
      Unchanged.refused(ARGUMENT, "goblin 1;hire 0 0 1/1", "passNights(" + nights + ")", house -> house.passNights(nights));
    }
    GoblinHousehold house = new GoblinHousehold();
    for (int nights = 1; nights <= 60; nights++) {
      Due.same("passNights(" + nights + ")", house.passNights(nights), 0);
      Due.same("night()", house.night(), nights * (nights + 1) / 2);
    }
  }
}
