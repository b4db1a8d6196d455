import java.util.NoSuchElementException;

/** Promises 14 to 35. */
final class GetterBoundaries {
  private static final Class<?> INDEX = IndexOutOfBoundsException.class;
  private static final Class<?> STATE = IllegalStateException.class;
  private static final Class<?> ELEMENT = NoSuchElementException.class;
  private static final String FOUR_BROOMS = "broom 4;broom 20;broom 1;broom 3;";

  private interface CallForOne {
    Object on(GoblinHousehold house, int index);
  }

  /** The call is answered for 0 to count - 1, and refused for all others. */
  private static void noSuch(Class<?> due, String steps, int count, String name, CallForOne call) {
    for (int index : House.outside(0, count - 1)) {
      Unchanged.refused(due, steps, name + "(" + index + ")", house -> call.on(house, index));
    }
    GoblinHousehold house = House.of(steps);
    String row = House.row(index -> call.on(house, index));
    Due.same("the answers of " + name + " after \"" + steps + "\"", row.isEmpty() ? 0 : row.split(" ").length, count);
  }

  private static void noSuchGoblin(String name, CallForOne call) {
    noSuch(INDEX, "", 0, name, call);
    noSuch(INDEX, "goblin 3;goblin 4;undo", 1, name, call);
    noSuch(INDEX, "goblin 3;goblin 4;", 2, name, call);
    noSuch(INDEX, House.FIVE_GOBLINS, 5, name, call);
  }

  private static void noSuchBroom(String name, CallForOne call) {
    noSuch(INDEX, "", 0, name, call);
    noSuch(INDEX, "broom 3;broom 4;banish 1;undo;undo", 1, name, call);
    noSuch(INDEX, "broom 3;broom 4;banish 0", 2, name, call);
    noSuch(INDEX, FOUR_BROOMS, 4, name, call);
  }

  private static final String HIRED = "goblin 1;goblin 2;hire 0 1 2/1;hire 1 1 50/20;hire 0 0 3/20;hire 0 5 1/20;";

  private static void noSuchContract(String name, CallForOne call) {
    noSuchIds("", name, call, 0, 1);
    noSuchIds(HIRED, name, call, 4, -1, 256, 65536, -65536, Integer.MIN_VALUE, Integer.MAX_VALUE);
    noSuchIds(HIRED + "undo", name, call, 3);
    noSuchIds(HIRED + "night", name, call, 0);
    noSuchIds(HIRED + "cancel 1;cancel 3", name, call, 1, 3, 4);
    noSuchIds(HIRED + "rest 0;night 3", name, call, 0, 2, 3, 4);
    GoblinHousehold house = House.of(HIRED);
    for (int id = 0; id < 4; id++) {
      int open = id;
      Due.same(name + "(" + id + ") of an open one is refused", Due.outcome(() -> call.on(house, open)) == ELEMENT, false);
    }
  }

  private static void noSuchIds(String steps, String name, CallForOne call, int... ids) {
    for (int id : ids) {
      Unchanged.refused(ELEMENT, steps, name + "(" + id + ")", house -> call.on(house, id));
    }
  }

  // Promises 14 and 15

  @Sentence(in = "Promise 14", says = "Throws IndexOutOfBoundsException if there is no such room")
  static void noRoom() {
    noSuch(INDEX, "", 6, "dust", GoblinHousehold::dust);
    noSuch(INDEX, House.FIVE_GOBLINS + "night 60", 6, "dust", GoblinHousehold::dust);
  }

  @Sentence(in = "Promise 15", says = "Returns the room at a rank when rooms are sorted by dust in descending order, "
      + "then by number in ascending order.")
  static void sortedRooms() {
    Due.same("all alike", House.row(House.of("")::roomByDust), "0 1 2 3 4 5");
    Due.same("all at 99", House.row(House.of("night 30")::roomByDust), "0 1 2 3 4 5");
    Due.same("the first is least", House.row(House.of("goblin 1;hire 0 0 1/1;night")::roomByDust), "1 2 3 4 5 0");
    Due.same("the last is least", House.row(House.of("goblin 1;hire 0 5 1/1;night")::roomByDust), "0 1 2 3 4 5");
    Due.same("alike at both ends", House.row(House.of("goblin 3;hire 0 4 1/1;hire 0 1 1/1;hire 0 3 1/1;night")::roomByDust),
        "0 2 5 1 3 4");
    // 23 in room 1 and 24 in room 3, as the one was cleaned with a broom that is stronger by 1.
    GoblinHousehold near = House.of("goblin 1;broom 2;hire 0 1 1/1;night 4;broom 1;banish 0;hire 0 3 1/1;night");
    Due.same("dust", House.row(near::dust), "35 23 35 24 35 35");
    Due.same("apart by 1", House.row(near::roomByDust), "0 2 4 5 3 1");
    GoblinHousehold reversed = House.of("goblin 1;broom 1;broom 2;broom 3;broom 4;hire 0 0 1/1;night;banish 3;"
        + "hire 0 1 1/1;night;banish 2;hire 0 2 1/1;night;banish 1;hire 0 3 1/1;night;banish 0;hire 0 4 1/1;night");
    Due.same("dust", House.row(reversed::dust), "21 22 23 24 25 35");
    Due.same("no two alike", House.row(reversed::roomByDust), "5 4 3 2 1 0");
  }

  @Sentence(in = "Promise 15", says = "- rank: the rank, counted from 0")
  static void firstRankOfRooms() {
    GoblinHousehold house = House.of("goblin 2;hire 0 0 1/1;hire 0 1 1/1;night");
    Due.same("roomByDust(0), which has the most dust", house.roomByDust(0), 2);
    Due.same("roomByDust(5), which has the least", house.roomByDust(5), 1);
  }

  @Sentence(in = "Promise 15", says = "Throws NoSuchElementException if there is no such rank")
  static void noRankOfRooms() {
    noSuch(ELEMENT, "", 6, "roomByDust", GoblinHousehold::roomByDust);
    noSuch(ELEMENT, "goblin 1;hire 0 3 1/1;night", 6, "roomByDust", GoblinHousehold::roomByDust);
  }

  // Promises 16 to 18

  @Sentence(in = "Promise 16", says = "Returns the number of brooms, banished ones included.")
  static void broomCount() {
    Due.same("broomCount() without brooms", House.of("").broomCount(), 0);
    Due.same("broomCount() of a banished one", House.of("broom 1;banish 0").broomCount(), 1);
    Due.same("broomCount() of four", House.of(FOUR_BROOMS).broomCount(), 4);
    Due.same("broomCount() of four banished ones",
        House.of(FOUR_BROOMS + "banish 0;banish 1;banish 2;banish 3").broomCount(), 4);
    Due.same("broomCount() of a recalled one", House.of("broom 1;banish 0;recall 0").broomCount(), 1);
    Due.same("broomCount() of an undone one", House.of("broom 1;broom 1;undo").broomCount(), 1);
  }

  @Sentence(in = "Promise 17", says = "Throws IndexOutOfBoundsException if there is no such broom")
  static void powerOfNoBroom() {
    noSuchBroom("power", GoblinHousehold::power);
  }

  @Sentence(in = "Promise 18", says = "Returns true if it is banished.")
  static void banished() {
    Due.same("isBanished", House.row(House.of(FOUR_BROOMS)::isBanished), "false false false false");
    Due.same("isBanished", House.row(House.of(FOUR_BROOMS + "banish 0;banish 3")::isBanished), "true false false true");
    Due.same("isBanished", House.row(House.of(FOUR_BROOMS + "banish 0;banish 3;recall 0")::isBanished),
        "false false false true");
  }

  @Sentence(in = "Promise 18", says = "Throws IndexOutOfBoundsException if there is no such broom")
  static void noBroomIsBanished() {
    noSuchBroom("isBanished", GoblinHousehold::isBanished);
  }

  // Promises 19 to 25

  @Sentence(in = "Promise 19", says = "Returns the number of goblins.")
  static void goblinCount() {
    Due.same("goblinCount() without goblins", House.of("").goblinCount(), 0);
    Due.same("goblinCount() of one at rest", House.of("goblin 1;rest 0").goblinCount(), 1);
    Due.same("goblinCount() of five", House.of(House.FIVE_GOBLINS).goblinCount(), 5);
    Due.same("goblinCount() of an undone one", House.of(House.FIVE_GOBLINS + "undo").goblinCount(), 4);
  }

  @Sentence(in = "Promise 20", says = "Throws IndexOutOfBoundsException if there is no such goblin")
  static void strengthOfNobody() {
    noSuchGoblin("strength", GoblinHousehold::strength);
  }

  @Sentence(in = "Promise 21", says = "Throws IndexOutOfBoundsException if there is no such goblin")
  static void purseOfNobody() {
    noSuchGoblin("purse", GoblinHousehold::purse);
  }

  @Sentence(in = "Promise 22", says = "Throws IndexOutOfBoundsException if there is no such goblin")
  static void debtOfNobody() {
    noSuchGoblin("debt", GoblinHousehold::debt);
  }

  @Sentence(in = "Promise 23", says = "Throws IndexOutOfBoundsException if there is no such goblin")
  static void skippedNightsOfNobody() {
    noSuchGoblin("skippedNights", GoblinHousehold::skippedNights);
  }

  @Sentence(in = "Promise 24", says = "Returns true if it rests.")
  static void resting() {
    GoblinHousehold house = House.of(House.FIVE_GOBLINS + "rest 0;rest 4");
    Due.same("isResting", House.row(house::isResting), "true false false false true");
    Due.same("isResting", House.row(House.go(house, "night 9;wake 0")::isResting), "false false false false true");
  }

  @Sentence(in = "Promise 24", says = "Throws IndexOutOfBoundsException if there is no such goblin")
  static void nobodyIsResting() {
    noSuchGoblin("isResting", GoblinHousehold::isResting);
  }

  @Sentence(in = "Promise 25", says = "Returns the energy that a goblin would have at the beginning of a night if it "
      + "worked now.")
  static void energy() {
    Due.same("the least energy", House.of("goblin 1").energy(0), 1);
    Due.same("the most energy", House.of("goblin 9;" + FOUR_BROOMS).energy(0), 45);
    Due.same("with all brooms banished", House.of("goblin 9;broom 1;broom 1;banish 0;banish 1").energy(0), 9);
    Due.same("at rest", House.of("goblin 3;broom 1;rest 0").energy(0), 6);
    Due.same("at rest for many nights", House.of("goblin 3;broom 1;rest 0;night 60").energy(0), 6);
    Due.same("after a night of work", House.of("goblin 3;broom 1;hire 0 0 1/6;night").energy(0), 6);
  }

  @Sentence(in = "Promise 25", says = "Throws IndexOutOfBoundsException if there is no such goblin")
  static void energyOfNobody() {
    noSuchGoblin("energy", GoblinHousehold::energy);
  }

  // Promise 26

  @Sentence(in = "Promise 26", says = "Returns the goblin at a rank when goblins are sorted by purse minus debt in "
      + "descending order, then by strength in descending order, then by index in ascending order.")
  static void sortedGoblins() {
    Due.same("one alone", House.row(House.of("goblin 3")::goblinByWealth), "0");
    Due.same("by strength", House.row(House.of(House.FIVE_GOBLINS)::goblinByWealth), "4 3 2 1 0");
    Due.same("by index", House.row(House.of("goblin 2;goblin 2;goblin 2;goblin 2;goblin 2")::goblinByWealth), "0 1 2 3 4");
    Due.same("by strength and index", House.row(House.of("goblin 1;goblin 9;goblin 1;goblin 9;goblin 5")::goblinByWealth),
        "1 3 4 0 2");
    Due.same("more by 1 before strength", House.row(House.of("goblin 1;goblin 9;hire 0 0 1/1;night")::goblinByWealth), "0 1");
    Due.same("purse minus debt, both 30", House.row(House.of("goblin 1;goblin 2;lend 0 30")::goblinByWealth), "1 0");
    Due.same("less than nothing", House.row(House.of("goblin 9;goblin 1;lend 0 1;night 7")::goblinByWealth), "1 0");
    Due.same("a great purse with a greater debt",
        House.row(House.of("goblin 9;goblin 1;goblin 1;lend 0 90;hire 2 0 1/1;night 7")::goblinByWealth), "2 1 0");
  }

  @Sentence(in = "Promise 26", says = "- rank: the rank, counted from 0")
  static void firstRankOfGoblins() {
    GoblinHousehold house = House.of("goblin 1;goblin 1;goblin 1;hire 2 0 5/1;hire 1 0 3/1;night");
    Due.same("goblinByWealth(0), the wealthiest", house.goblinByWealth(0), 2);
    Due.same("goblinByWealth(2), the poorest", house.goblinByWealth(2), 0);
  }

  @Sentence(in = "Promise 26", says = "Throws NoSuchElementException if there is no such rank")
  static void noRankOfGoblins() {
    noSuch(ELEMENT, "", 0, "goblinByWealth", GoblinHousehold::goblinByWealth);
    noSuch(ELEMENT, "goblin 1", 1, "goblinByWealth", GoblinHousehold::goblinByWealth);
    noSuch(ELEMENT, "goblin 1;goblin 1;undo", 1, "goblinByWealth", GoblinHousehold::goblinByWealth);
    noSuch(ELEMENT, House.FIVE_GOBLINS, 5, "goblinByWealth", GoblinHousehold::goblinByWealth);
  }

  // Promises 27 and 28

  // Starts with a goblin of number 0, and the best wages that are due for it.
  private static final String[] BEST_OF = {"goblin 5", "goblin 5;hire 0 0 9/5", "goblin 5;hire 0 0 9/6",
      "goblin 5;hire 0 0 9/3;hire 0 1 8/2", "goblin 5;hire 0 0 9/3;hire 0 1 8/3", "goblin 5;hire 0 0 8/3;hire 0 1 9/3",
      "goblin 5;hire 0 0 9/5;hire 0 1 5/3;hire 0 2 5/2", "goblin 5;hire 0 0 10/5;hire 0 1 5/3;hire 0 2 4/2",
      "goblin 5;hire 0 0 50/6;hire 0 1 1/1", "goblin 5;goblin 9;hire 1 0 50/1", "goblin 5;goblin 9;hire 1 0 50/1;hire 0 0 2/5",
      "goblin 5;hire 0 0 9/5;rest 0;night 2", "goblin 5;hire 0 0 9/5;night", "goblin 5;hire 0 0 9/5;cancel 0",
      "goblin 5;broom 1;hire 0 0 9/10", "goblin 5;broom 1;hire 0 0 9/11", "goblin 5;broom 1;banish 0;hire 0 0 9/6",
      "spend 100;goblin 5;hire 0 0 9/5",
      "goblin 9;broom 1;broom 1;broom 1;broom 1;hire 0 0 50/7;hire 0 1 50/8;hire 0 2 50/7;hire 0 3 50/8;hire 0 4 50/7;"
          + "hire 0 5 50/8",
      "goblin 9;broom 1;broom 1;broom 1;broom 1;hire 0 0 50/7;hire 0 1 50/8;hire 0 2 50/7;hire 0 3 50/8;hire 0 4 50/8;"
          + "hire 0 5 49/8",
      "goblin 1;hire 0 0 1/1;hire 0 1 2/1;hire 0 2 3/1;hire 0 3 4/1;hire 0 4 6/1;hire 0 5 5/1",
      "goblin 6;goblin 1;hire 1 0 1/1;hire 1 1 1/1;hire 0 0 1/1;hire 0 1 2/1;hire 0 2 3/1;hire 0 3 4/1;hire 0 4 6/1;"
          + "hire 0 5 5/1",
      "goblin 4;broom 1;broom 1;broom 1;broom 1;hire 0 0 7/20;hire 0 1 6/20",
      "goblin 9;broom 1;broom 1;broom 1;broom 1;hire 0 0 7/20;hire 0 1 6/20;hire 0 2 5/20"};
  private static final int[] BEST = {0, 9, 0, 17, 9, 9, 10, 10, 1, 0, 2, 9, 0, 0, 9, 0, 0, 9, 300, 250, 6, 21, 7, 13};

  @Sentence(in = "Promise 27", says = "Returns the greatest sum of wages of open contracts of a goblin whose efforts "
      + "together are at most its energy, found by trying all sets of contracts.")
  static void bestWages() {
    for (int i = 0; i < BEST.length; i++) {
      Due.same("bestWages(0) after \"" + BEST_OF[i] + "\"", House.of(BEST_OF[i]).bestWages(0), BEST[i]);
    }
  }

  @Sentence(in = "Promise 27", says = "Throws IndexOutOfBoundsException if there is no such goblin")
  static void bestWagesOfNobody() {
    noSuchGoblin("bestWages", GoblinHousehold::bestWages);
  }

  @Sentence(in = "Promise 28", says = "Returns the same number as bestWages, found by a table of energies.")
  static void bestWagesByTable() {
    for (int i = 0; i < BEST.length; i++) {
      GoblinHousehold house = House.of(BEST_OF[i]);
      Due.same("bestWagesByTable(0) after \"" + BEST_OF[i] + "\"", house.bestWagesByTable(0), BEST[i]);
      Due.same("bestWagesByTable(0) again", house.bestWagesByTable(0), BEST[i]);
    }
  }

  @Sentence(in = "Promise 28", says = "Throws IndexOutOfBoundsException if there is no such goblin")
  static void bestWagesByTableOfNobody() {
    noSuchGoblin("bestWagesByTable", GoblinHousehold::bestWagesByTable);
  }

  // Promises 29 to 35

  @Sentence(in = "Promise 29", says = "Returns the number of open contracts.")
  static void openContracts() {
    Due.same("openContracts() without contracts", House.of("").openContracts(), 0);
    Due.same("openContracts()", House.of(HIRED).openContracts(), 4);
    Due.same("openContracts() after one is done", House.of(HIRED + "night").openContracts(), 3);
    Due.same("openContracts() after one is cancelled", House.of(HIRED + "cancel 3").openContracts(), 3);
    Due.same("openContracts() after 2 skipped nights", House.of(HIRED + "rest 0;night 2").openContracts(), 4);
    Due.same("openContracts() after 3 skipped nights", House.of(HIRED + "rest 0;night 3").openContracts(), 1);
    Due.same("openContracts() at most",
        House.of(HIRED + "hire 0 2 1/1;hire 0 3 1/1;hire 0 4 1/1;hire 1 2 1/1").openContracts(), 8);
  }

  @Sentence(in = "Promise 30", says = "Returns an open contract by its position in the order of ids.")
  static void positions() {
    Due.same("contractAt", House.row(House.of(HIRED)::contractAt), "0 1 2 3");
    Due.same("contractAt without the first", House.row(House.of(HIRED + "cancel 0")::contractAt), "1 2 3");
    Due.same("contractAt without the last", House.row(House.of(HIRED + "cancel 3")::contractAt), "0 1 2");
    Due.same("contractAt without one between", House.row(House.of(HIRED + "cancel 1")::contractAt), "0 2 3");
    Due.same("contractAt with the last one new", House.row(House.of(HIRED + "cancel 1;hire 1 0 1/1")::contractAt), "0 2 3 4");
    Due.same("contractAt of one alone", House.row(House.of(HIRED + "cancel 3;cancel 0;cancel 1")::contractAt), "2");
  }

  @Sentence(in = "Promise 30", says = "- position: the position, counted from 0")
  static void firstPosition() {
    Due.same("contractAt(0)", House.of(HIRED + "night").contractAt(0), 1);
    Due.same("contractAt(2)", House.of(HIRED + "night").contractAt(2), 3);
  }

  @Sentence(in = "Promise 30", says = "Throws NoSuchElementException if there is no such position")
  static void noPosition() {
    noSuch(ELEMENT, "", 0, "contractAt", GoblinHousehold::contractAt);
    noSuch(ELEMENT, HIRED, 4, "contractAt", GoblinHousehold::contractAt);
    noSuch(ELEMENT, HIRED + "night", 3, "contractAt", GoblinHousehold::contractAt);
    noSuch(ELEMENT, HIRED + "undo;undo;undo;undo", 0, "contractAt", GoblinHousehold::contractAt);
    noSuch(ELEMENT, HIRED + "hire 0 2 1/1;hire 0 3 1/1;hire 0 4 1/1;hire 1 2 1/1", 8, "contractAt",
        GoblinHousehold::contractAt);
  }

  @Sentence(in = "Promise 31", says = "Throws NoSuchElementException if there is no open contract with this id")
  static void goblinOfNone() {
    noSuchContract("goblinOf", GoblinHousehold::goblinOf);
  }

  @Sentence(in = "Promise 32", says = "Throws NoSuchElementException if there is no open contract with this id")
  static void roomOfNone() {
    noSuchContract("roomOf", GoblinHousehold::roomOf);
  }

  @Sentence(in = "Promise 33", says = "Throws NoSuchElementException if there is no open contract with this id")
  static void wageOfNone() {
    noSuchContract("wage", GoblinHousehold::wage);
  }

  @Sentence(in = "Promise 34", says = "Throws NoSuchElementException if there is no open contract with this id")
  static void effortOfNone() {
    noSuchContract("effort", GoblinHousehold::effort);
  }

  @Sentence(in = "Promise 35", says = "Predicts after how many nights an open contract is done.")
  static void nightsUntilDone() {
    Due.same("nightsUntilDone in the next night", House.of("goblin 1;hire 0 0 1/1").nightsUntilDone(0), 1);
    String six = "goblin 1;hire 0 0 1/1;hire 0 1 1/1;hire 0 2 1/1;hire 0 3 1/1;hire 0 4 1/1;hire 0 5 1/1;";
    for (int id = 0; id < 6; id++) {
      Due.same("nightsUntilDone(" + id + ") of six", House.of(six).nightsUntilDone(id), id + 1);
    }
    Due.same("nightsUntilDone(5) a night later", House.of(six + "night").nightsUntilDone(5), 5);
    Due.same("nightsUntilDone(5) when one is cancelled", House.of(six + "cancel 2").nightsUntilDone(5), 5);
    Due.same("nightsUntilDone(5) with a broom", House.of(six + "broom 1").nightsUntilDone(5), 3);
    Due.same("nightsUntilDone from an empty chest", House.of("spend 100;" + six).nightsUntilDone(5), 6);
    Due.same("nightsUntilDone when woken in time", House.of(six + "rest 0;night 2;wake 0").nightsUntilDone(0), 1);
  }

  @Sentence(in = "Promise 35", says = "Throws NoSuchElementException if there is no open contract with this id")
  static void nightsUntilNoneIsDone() {
    noSuchContract("nightsUntilDone", GoblinHousehold::nightsUntilDone);
  }

  // A goblin has at most 6 open contracts, so one that is ever done is done within 6 nights.
  @Sentence(in = "Promise 35", says = "Throws IllegalStateException if it is not done within 60 nights")
  static void neverDone() {
    String hired = "goblin 1;goblin 1;hire 0 0 1/2;hire 0 1 1/1;hire 1 0 1/1;";
    Unchanged.refused(STATE, hired, "nightsUntilDone(0)", house -> house.nightsUntilDone(0));
    Unchanged.refused(STATE, hired, "nightsUntilDone(1) behind it", house -> house.nightsUntilDone(1));
    Unchanged.refused(STATE, hired + "rest 1", "nightsUntilDone(2) at rest", house -> house.nightsUntilDone(2));
    Unchanged.refused(STATE, hired + "rest 1;night 2", "nightsUntilDone(2) before it breaks",
        house -> house.nightsUntilDone(2));
    Unchanged.refused(STATE, hired + "rest 1;night 3;hire 1 1 1/1", "nightsUntilDone(3) hired at rest",
        house -> house.nightsUntilDone(3));
    Due.same("nightsUntilDone(2)", House.of(hired).nightsUntilDone(2), 1);
    Due.same("nightsUntilDone(1) when the other is cancelled", House.of(hired + "cancel 0").nightsUntilDone(1), 1);
    Due.same("nightsUntilDone(0) with a broom", House.of(hired + "broom 1").nightsUntilDone(0), 1);
  }
}
