import java.util.NoSuchElementException;

/** "Terms" from the rooms to the household, and promise 1. */
final class HouseBoundaries {
  private static final Class<?> INDEX = IndexOutOfBoundsException.class;
  private static final Class<?> ARGUMENT = IllegalArgumentException.class;
  private static final Class<?> STATE = IllegalStateException.class;
  private static final Class<?> ELEMENT = NoSuchElementException.class;
  private static final String EIGHT_CONTRACTS =
      "hire 0 0 1/1;hire 0 1 1/1;hire 0 2 1/1;hire 0 3 1/1;hire 0 4 1/1;hire 0 5 1/1;hire 1 0 1/20;hire 1 1 1/20;";

  @Sentence(in = "Promise 1",
      says = "Creates a household with 100 crumbs, without goblins, brooms and contracts at night 0.")
  static void newHouse() {
    GoblinHousehold house = new GoblinHousehold();
    Due.same("chest()", house.chest(), 100);
    Due.same("allCrumbs()", house.allCrumbs(), 100);
    Due.same("allCrumbsByAccounts()", house.allCrumbsByAccounts(), 100);
    Due.same("goblinCount()", house.goblinCount(), 0);
    Due.same("broomCount()", house.broomCount(), 0);
    Due.same("openContracts()", house.openContracts(), 0);
    Due.same("night()", house.night(), 0);
    Due.refused("strength(0)", INDEX, () -> house.strength(0));
    Due.refused("power(0)", INDEX, () -> house.power(0));
    Due.refused("contractAt(0)", ELEMENT, () -> house.contractAt(0));
    Due.refused("wage(0)", ELEMENT, () -> house.wage(0));
  }

  @Sentence(in = "What it is",
      says = "An object is used for at most 512 calls after it has been made; what later calls answer is free.")
  static void theLastCall() {
    GoblinHousehold house = new GoblinHousehold();
    for (int call = 1; call < 512; call++) {
      Due.same("call " + call, house.fund(999), 100 + 999 * call);
    }
    Due.same("call 512", house.allCrumbs(), 100 + 999 * 511);

    GoblinHousehold old = new GoblinHousehold();
    for (int call = 1; call < 512; call++) {
      old.passNights(60);
    }
    Due.same("call 512", old.night(), 60 * 511);

    GoblinHousehold hired = House.of("goblin 1");
    for (int id = 0; id < 255; id++) {
      Due.same("hire", hired.hire(0, 0, 1, 1), id);
      Due.same("cancelContract", hired.cancelContract(id), 0);
    }
    Due.same("call 512", hired.hire(0, 0, 1, 1), 255);
  }

  @Sentence(in = "Terms", says = "There are the rooms 0 to 5.")
  static void rooms() {
    GoblinHousehold house = House.of("goblin 1");
    Due.same("dust", House.row(house::dust), "20 20 20 20 20 20");
    Due.same("roomByDust", House.row(house::roomByDust), "0 1 2 3 4 5");
    Due.same("hire", House.row(room -> house.hire(0, room, 1, 1)), "0 1 2 3 4 5");
    for (int room : House.outside(0, 5)) {
      Due.refused("dust(" + room + ")", INDEX, () -> house.dust(room));
      Due.refused("hire for room " + room, INDEX, () -> house.hire(0, room, 1, 1));
    }
    house.passNights(1);
    Due.same("dust a night later", House.row(house::dust), "13 23 23 23 23 23");
  }

  @Sentence(in = "Terms", says = "A room has dust from 0 to 99, initially 20.")
  static void dust() {
    GoblinHousehold house = House.of("goblin 9;broom 20");
    Due.same("dust initially", House.row(house::dust), "20 20 20 20 20 20");
    House.go(house, "hire 0 0 1/1;hire 0 1 1/1;hire 0 2 1/1;hire 0 3 1/1;hire 0 4 1/1;hire 0 5 1/1;night");
    Due.same("the least dust", House.row(house::dust), "0 0 0 0 0 0");
    Due.same("the most dust", House.row(House.go(house, "night 60;night 60")::dust), "99 99 99 99 99 99");
  }

  @Sentence(in = "Terms",
      says = "At most 4 brooms exist; they have the indices 0 to n - 1 in the order in which they were added.")
  static void brooms() {
    GoblinHousehold house = new GoblinHousehold();
    int[] powers = {7, 20, 1, 7};
    String row = "";
    for (int broom = 0; broom < 4; broom++) {
      Due.same("addBroom", house.addBroom(powers[broom]), broom);
      row += (broom == 0 ? "" : " ") + powers[broom];
      Due.same("power", House.row(house::power), row);
    }
    Due.refused("the fifth addBroom", STATE, () -> house.addBroom(1));
    House.go(house, "banish 0;banish 1;banish 2;banish 3");
    Due.refused("the fifth addBroom with all others banished", STATE, () -> house.addBroom(1));
    Due.same("power", House.row(house::power), "7 20 1 7");
    Due.same("the fifth by a script", Due.run(house, "broom 1"), STATE);
    Due.same("broomCount()", house.broomCount(), 4);
  }

  @Sentence(in = "Terms",
      says = "A broom has a power from 1 to 20 and is in use or banished; it is in use initially.")
  static void broomAtItsBounds() {
    GoblinHousehold house = House.of("goblin 1;broom 1;broom 20");
    Due.same("power", House.row(house::power), "1 20");
    Due.same("isBanished", House.row(house::isBanished), "false false");
    Due.same("energy(0)", house.energy(0), 3);
    for (int power : House.outside(1, 20)) {
      Due.refused("addBroom(" + power + ")", ARGUMENT, () -> house.addBroom(power));
    }
    House.go(house, "undo;broom 19;banish 1;undo;undo;broom 18");
    Due.same("isBanished where a banished one was undone", House.row(house::isBanished), "false false");
    Due.same("power", House.row(house::power), "1 18");
  }

  @Sentence(in = "Terms", says = "At most 5 goblins exist, numbered in the same way.")
  static void goblins() {
    GoblinHousehold house = new GoblinHousehold();
    int[] strengths = {4, 9, 1, 4, 2};
    String row = "";
    for (int goblin = 0; goblin < 5; goblin++) {
      Due.same("addGoblin", house.addGoblin(strengths[goblin]), goblin);
      row += (goblin == 0 ? "" : " ") + strengths[goblin];
      Due.same("strength", House.row(house::strength), row);
    }
    Due.refused("the sixth addGoblin", STATE, () -> house.addGoblin(1));
    Due.same("the sixth by a script", Due.run(house, "goblin 1"), STATE);
    Due.same("strength", House.row(house::strength), "4 9 1 4 2");
    Due.same("goblinCount()", house.goblinCount(), 5);
  }

  @Sentence(in = "Terms", says = "A goblin has a strength from 1 to 9, a purse with a number of crumbs, a debt in "
      + "crumbs, and a number of skipped nights; the last three are 0 initially.")
  static void goblinAtItsBounds() {
    GoblinHousehold house = House.of("goblin 1;goblin 9");
    Due.same("strength", House.row(house::strength), "1 9");
    Due.same("purse", House.row(house::purse), "0 0");
    Due.same("debt", House.row(house::debt), "0 0");
    Due.same("skippedNights", House.row(house::skippedNights), "0 0");
    for (int strength : House.outside(1, 9)) {
      Due.refused("addGoblin(" + strength + ")", ARGUMENT, () -> house.addGoblin(strength));
    }
    House.go(house, "lend 1 30;rest 1;night 2;undo;undo;undo;undo;goblin 8");
    Due.same("strength where a goblin was undone", House.row(house::strength), "1 8");
    Due.same("purse there", House.row(house::purse), "0 0");
    Due.same("debt there", House.row(house::debt), "0 0");
    Due.same("skippedNights there", House.row(house::skippedNights), "0 0");
  }

  @Sentence(in = "Terms", says = "A goblin rests or does not rest; it does not rest initially.")
  static void restInitially() {
    GoblinHousehold house = House.of(House.FIVE_GOBLINS);
    Due.same("isResting", House.row(house::isResting), "false false false false false");
    House.go(house, "rest 4;undo;undo;goblin 9");
    Due.same("isResting where one at rest was undone", House.row(house::isResting), "false false false false false");
    House.go(house, "save;rest 4;restore;rest 0");
    Due.same("isResting", House.row(house::isResting), "true false false false false");
  }

  @Sentence(in = "Terms", says = "A contract is between the household and a goblin, for a room, with a wage from 1 to "
      + "50 crumbs and an effort from 1 to 20.")
  static void contractAtItsBounds() {
    GoblinHousehold house = House.of("goblin 1;hire 0 0 1/20;hire 0 5 50/1");
    Due.same("renderContracts()", Due.text(house, house.renderContracts()), "0:0>0@1/20 1:0>5@50/1");
    for (int wage : House.outside(1, 50)) {
      Due.refused("hire for wage " + wage, ARGUMENT, () -> house.hire(0, 1, wage, 1));
    }
    for (int effort : House.outside(1, 20)) {
      Due.refused("hire with effort " + effort, ARGUMENT, () -> house.hire(0, 1, 1, effort));
    }
  }

  @Sentence(in = "Terms", says = "Each contract gets an id; the first one has the id 0, and each further one has the id "
      + "of the one before plus 1.")
  static void ids() {
    GoblinHousehold house = House.of("goblin 1;goblin 1");
    Due.same("the first id", house.hire(1, 3, 1, 1), 0);
    Due.same("the second id", house.hire(0, 3, 1, 20), 1);
    house.passNights(1);
    Due.same("the id after a done contract", house.hire(1, 3, 1, 20), 2);
    house.cancelContract(2);
    Due.same("the id after a cancelled contract", house.hire(1, 3, 1, 20), 3);
    House.go(house, "rest 1;night 3");
    Due.same("the id after a broken contract", house.hire(1, 3, 1, 20), 4);
    Due.refused("hire for the same room", UnsupportedOperationException.class, () -> house.hire(1, 3, 1, 1));
    Due.refused("hire for no wage", ARGUMENT, () -> house.hire(1, 4, 0, 1));
    Due.run(house, "hire 1 4 1/1;hire 1 4 1/1");
    Due.same("the id after refused contracts", house.hire(1, 4, 1, 20), 5);
    house.undo();
    Due.same("the id after an undone contract", house.hire(1, 5, 1, 20), 5);
    Due.run(house, "hire 0 4 1/1;hire 0 5 1/1");
    Due.same("the ids of a script", House.row(house::contractAt), "1 4 5 6 7");
  }

  @Sentence(in = "Terms", says = "A contract is open until it is done, cancelled or broken.")
  static void open() {
    GoblinHousehold house = House.of("goblin 2;goblin 2;hire 0 0 1/2;hire 0 1 1/2;hire 1 0 1/3;rest 1;night");
    Due.same("open after one is done", House.row(house::contractAt), "1 2");
    Due.refused("wage(0) of a done one", ELEMENT, () -> house.wage(0));
    house.cancelContract(1);
    Due.same("open after one is cancelled", House.row(house::contractAt), "2");
    Due.refused("wage(1) of a cancelled one", ELEMENT, () -> house.wage(1));
    house.passNights(1);
    Due.same("open after two skipped nights", House.row(house::contractAt), "2");
    house.passNights(1);
    Due.same("open after one is broken", House.row(house::contractAt), "");
    Due.refused("wage(2) of a broken one", ELEMENT, () -> house.wage(2));
    Due.same("a contract that nobody can do stays open", House.row(House.go(house, "hire 0 0 1/3;night 60")::contractAt),
        "3");
  }

  @Sentence(in = "Terms", says = "At most 8 contracts are open.")
  static void eightContracts() {
    GoblinHousehold house = House.of("goblin 1;goblin 1;" + EIGHT_CONTRACTS);
    Due.same("openContracts()", house.openContracts(), 8);
    Due.refused("the ninth hire", STATE, () -> house.hire(1, 2, 1, 1));
    Due.same("the ninth by a script", Due.run(house, "hire 1 2 1/1"), STATE);
    house.cancelContract(7);
    Due.same("hire after a cancelled one", house.hire(1, 2, 1, 20), 8);
    Due.refused("the ninth hire", STATE, () -> house.hire(1, 3, 1, 1));
    house.passNights(1);
    Due.same("hire after a done one", house.hire(1, 3, 1, 20), 9);
    Due.refused("the ninth hire", STATE, () -> house.hire(1, 4, 1, 1));
    Due.same("openContracts()", house.openContracts(), 8);
    House.go(house, "rest 1;rest 0;night 3");
    Due.same("hire after all are broken", house.hire(1, 4, 1, 20), 10);
    Due.same("openContracts()", house.openContracts(), 1);
  }

  @Sentence(in = "Terms", says = "The household has a chest with a number of crumbs, initially 100.")
  static void chestInitially() {
    Due.same("chest()", new GoblinHousehold().chest(), 100);
    Due.same("spend(100)", new GoblinHousehold().spend(100), 0);
    Due.refused("spend(101)", UnsupportedOperationException.class, () -> new GoblinHousehold().spend(101));
  }

  @Sentence(in = "Terms", says = "Crumbs come from outside only by fund and leave only by spend.")
  static void crumbsFromOutside() {
    GoblinHousehold house = new GoblinHousehold();
    String[] steps = {"goblin 9", "goblin 1", "broom 20", "lend 0 40", "lend 1 10", "hire 0 3 49/1", "cancel 0",
        "hire 0 0 50/1", "hire 0 1 50/1", "night", "hire 0 2 49/1", "cancel 3", "hire 1 0 50/20", "rest 1", "night 3",
        "banish 0", "recall 0", "night 60", "wake 1", "hire 1 1 50/2", "hire 1 2 50/1", "night", "cancel 6", "undo"};
    for (String step : steps) {
      House.go(house, step);
      Due.same("allCrumbs() after " + step, house.allCrumbs(), 100);
      Due.same("chest() and the purses after " + step, house.chest() + purses(house), 100);
    }
    Due.same("allCrumbs() after fund", House.go(house, "fund 1").allCrumbs(), 101);
    Due.same("allCrumbs() after spend", House.go(house, "fund 999;spend 998").allCrumbs(), 102);
    Due.same("allCrumbsByAccounts()", house.allCrumbsByAccounts(), 102);
  }

  private static int purses(GoblinHousehold house) {
    int sum = 0;
    for (int goblin = 0; goblin < house.goblinCount(); goblin++) {
      sum += house.purse(goblin);
    }
    return sum;
  }
}
