import java.util.NoSuchElementException;

/** "Terms" of a night, the pay and the predictions. */
final class NightBoundaries {
  private static final Class<?> ELEMENT = NoSuchElementException.class;

  @Sentence(in = "Terms", says = "All integer divisions round down.")
  static void divisions() {
    int[] wages = {1, 9, 10, 11, 19, 20, 49, 50};
    int[] tenths = {0, 0, 1, 1, 1, 2, 4, 5};
    for (int i = 0; i < wages.length; i++) {
      GoblinHousehold house = House.of("goblin 1;hire 0 0 " + wages[i] + "/1");
      Due.same("a tenth of " + wages[i], house.cancelContract(0), tenths[i]);
    }
    int[] debts = {1, 9, 10, 19, 20, 29, 30, 99};
    int[] grown = {2, 10, 12, 21, 23, 32, 34, 109};
    for (int i = 0; i < debts.length; i++) {
      GoblinHousehold house = House.of("goblin 1;lend 0 " + debts[i] + ";night 7");
      Due.same("the debt of " + debts[i] + " after 7 nights", house.debt(0), grown[i]);
    }
  }

  @Sentence(in = "Terms", says = "Nights are counted from 0.")
  static void nightsFromZero() {
    GoblinHousehold house = new GoblinHousehold();
    Due.same("night()", house.night(), 0);
    Due.same("night() after one", House.go(house, "night").night(), 1);
    Due.same("night() undone", House.go(house, "undo").night(), 0);
  }

  @Sentence(in = "Terms", says = "First, the number of nights increases by 1.")
  static void nightsIncrease() {
    GoblinHousehold house = new GoblinHousehold();
    for (int night = 1; night <= 9; night++) {
      Due.same("night()", House.go(house, "night").night(), night);
    }
    Due.same("night()", House.go(house, "night 60").night(), 69);
    // The number has increased before the fifth step looks at it.
    Due.same("debt(0) in the seventh night", House.of("night 6;goblin 1;lend 0 1;night").debt(0), 2);
    Due.same("debt(0) in the sixth and the eighth night",
        House.of("night 5;goblin 1;lend 0 1;night;night;night").debt(0), 2);
  }

  @Sentence(in = "Terms", says = "Second, the dust of each room increases by 3, but not beyond 99.")
  static void dustNotBeyond() {
    // Room 0 gets to 97, room 1 to 96 and the others to 98 before they get to 99.
    GoblinHousehold house = House.of("goblin 1;hire 0 0 1/1;night;broom 1;hire 0 1 1/1;night");
    Due.same("dust", House.row(house::dust), "16 15 26 26 26 26");
    Due.same("dust", House.row(House.go(house, "night 24")::dust), "88 87 98 98 98 98");
    Due.same("98 and 3", House.row(House.go(house, "night")::dust), "91 90 99 99 99 99");
    Due.same("99 and 3", House.row(House.go(house, "night 2")::dust), "97 96 99 99 99 99");
    Due.same("97 and 3, 96 and 3", House.row(House.go(house, "night")::dust), "99 99 99 99 99 99");
    Due.same("99 in many nights", House.row(House.go(house, "night 60")::dust), "99 99 99 99 99 99");
    House.go(house, "banish 0;hire 0 5 1/1;night");
    Due.same("99 before it is cleaned", House.row(house::dust), "99 99 99 99 99 89");
  }

  @Sentence(in = "Terms", says = "Third, for each goblin, in the order of their numbers: if the goblin rests, its "
      + "skipped nights increase by 1.")
  static void restAndOrder() {
    GoblinHousehold house = House.of("goblin 1;goblin 1;goblin 1;rest 1");
    for (int night = 1; night <= 5; night++) {
      Due.same("skippedNights", House.row(House.go(house, "night")::skippedNights), "0 " + night + " 0");
    }
    Due.same("skippedNights", House.row(House.go(house, "rest 0;night 60")::skippedNights), "60 65 0");
    // The chest is enough for one of them, which is goblin 0 whatever the order of the contracts.
    GoblinHousehold poor = House.of("goblin 1;goblin 9;spend 60;hire 1 0 40/1;hire 0 0 40/1;night");
    Due.same("purse", House.row(poor::purse), "40 0");
  }

  @Sentence(in = "Terms", says = "Otherwise its skipped nights become 0, and it works on its open contracts in the "
      + "order of their ids.")
  static void workAndOrder() {
    for (int nights = 1; nights <= 4; nights++) {
      GoblinHousehold house = House.of("goblin 1;rest 0;night " + nights + ";wake 0");
      Due.same("skippedNights(0) before it works", house.skippedNights(0), nights);
      house.passNights(1);
      Due.same("skippedNights(0) after it works", house.skippedNights(0), 0);
    }
    GoblinHousehold house = House.of("goblin 1;hire 0 5 1/1;hire 0 2 50/1;hire 0 4 2/1");
    Due.same("open at first", House.row(house::contractAt), "0 1 2");
    Due.same("open after a night", House.row(House.go(house, "night")::contractAt), "1 2");
    Due.same("open after two", House.row(House.go(house, "night")::contractAt), "2");
    Due.same("purse(0)", house.purse(0), 51);
  }

  @Sentence(in = "Terms", says = "Its energy at the beginning is its strength, multiplied by the number of brooms in use "
      + "plus 1.")
  static void energyAtTheBeginning() {
    String[] brooms = {"", "broom 1;", "broom 1;broom 1;broom 1;broom 1;", "broom 1;broom 1;broom 1;broom 1;banish 0;",
        "broom 1;broom 1;banish 0;banish 1;"};
    int[] factors = {1, 2, 5, 4, 1};
    for (int i = 0; i < brooms.length; i++) {
      for (int strength = 1; strength <= 9 && strength * factors[i] < 20; strength++) {
        int energy = strength * factors[i];
        String start = "goblin " + strength + ";" + brooms[i];
        String what = "after \"" + start + "\"";
        Due.same("effort " + energy + what, House.of(start + "hire 0 0 1/" + energy).passNights(1), 1);
        Due.same("effort beyond it " + what, House.of(start + "hire 0 0 1/" + (energy + 1)).passNights(1), 0);
      }
    }
    String strongest = "goblin 9;broom 1;broom 1;broom 1;broom 1;hire 0 0 1/20;hire 0 1 1/20;";
    Due.same("efforts 20, 20 and 5", House.of(strongest + "hire 0 2 1/5").passNights(1), 3);
    Due.same("efforts 20, 20 and 6", House.of(strongest + "hire 0 2 1/6").passNights(1), 2);
  }

  private static final String DONE = "A contract whose effort is at most the energy that is left is done: its effort is "
      + "subtracted from the energy, the dust of its room decreases by 10 plus the greatest power of a broom in use, or "
      + "by 10 if no broom is in use, but not below 0, and the contract is paid.";

  @Sentence(in = "Terms", says = DONE)
  static void doneWithTheEnergyThatIsLeft() {
    String[] efforts = {"1", "2", "3", "4", "5", "6", "4 1", "4 2", "2 3", "2 4", "1 1 1 1 1 1", "5 1", "1 1 4"};
    int[] due = {1, 1, 1, 1, 1, 0, 2, 1, 2, 1, 5, 1, 2};
    for (int i = 0; i < efforts.length; i++) {
      GoblinHousehold house = House.of("goblin 5");
      String[] each = efforts[i].split(" ");
      for (int room = 0; room < each.length; room++) {
        house.hire(0, room, 7, Integer.parseInt(each[room]));
      }
      Due.same("energy 5 for efforts " + efforts[i], house.passNights(1), due[i]);
      Due.same("purse(0)", house.purse(0), 7 * due[i]);
      Due.same("doneTotal()", house.doneTotal(), due[i]);
    }
  }

  @Sentence(in = "Terms", says = DONE)
  static void dustNotBelowZero() {
    int[] powers = {12, 13, 14, 20};
    int[] due = {1, 0, 0, 0};
    for (int i = 0; i < powers.length; i++) {
      GoblinHousehold house = House.of("goblin 1;goblin 1;broom " + powers[i] + ";hire 0 3 1/1;night");
      Due.same("23 less 10 and " + powers[i], house.dust(3), due[i]);
      Due.same("dust of another room", house.dust(2), 23);
      Due.same("dust a night later", House.go(house, "night").dust(3), due[i] + 3);
      House.go(house, "hire 0 3 1/1;hire 1 3 1/1;night");
      Due.same("dust cleaned twice in a night", house.dust(3), 0);
    }
  }

  @Sentence(in = "Terms", says = DONE)
  static void greatestPowerInUse() {
    String[] brooms = {"", "broom 9;banish 0;", "broom 1;", "broom 2;broom 7;broom 5;", "broom 7;broom 2;",
        "broom 4;broom 12;broom 3;banish 1;", "broom 11;broom 12;broom 10;broom 9;banish 1;banish 0;", "broom 2;broom 3;"
        + "banish 1;recall 1;"};
    int[] due = {13, 13, 12, 6, 6, 9, 3, 10};
    for (int i = 0; i < brooms.length; i++) {
      GoblinHousehold house = House.of("goblin 1;" + brooms[i] + "hire 0 0 1/1;night");
      Due.same("dust(0) after \"" + brooms[i] + "\"", house.dust(0), due[i]);
    }
  }

  @Sentence(in = "Terms",
      says = "The first contract for which the energy does not suffice ends the work of this goblin in this night.")
  static void firstThatDoesNotSuffice() {
    GoblinHousehold house = House.of("goblin 3;goblin 3;hire 0 0 1/4;hire 0 1 1/1;hire 1 0 1/3;night");
    Due.same("open, as a too great one is first", House.row(house::contractAt), "0 1");
    Due.same("open in later nights", House.row(House.go(house, "night 60")::contractAt), "0 1");
    Due.same("open when it is gone", House.row(House.go(house, "cancel 0;night")::contractAt), "");

    GoblinHousehold second = House.of("goblin 3;hire 0 0 1/2;hire 0 1 1/2;hire 0 2 1/1;night");
    Due.same("open, as the second is too great for what is left", House.row(second::contractAt), "1 2");
    Due.same("open with new energy", House.row(House.go(second, "night")::contractAt), "");
  }

  @Sentence(in = "Terms",
      says = "Fourth, all open contracts of each goblin whose skipped nights are 3 or more are broken.")
  static void brokenContracts() {
    GoblinHousehold house = House.of("goblin 1;goblin 1;goblin 1;hire 2 0 1/1;hire 1 0 1/20;hire 0 0 1/1;hire 0 1 1/1;"
        + "hire 2 5 1/1;hire 0 5 1/1;rest 0;night;rest 2;night");
    Due.same("open after 2 skipped nights", House.row(house::contractAt), "1 2 3 4 5");
    Due.same("brokenTotal()", house.brokenTotal(), 0);
    Due.same("open after 3 of goblin 0", House.row(House.go(house, "night")::contractAt), "1 4");
    Due.same("brokenTotal()", house.brokenTotal(), 3);
    Due.same("open after 3 of goblin 2", House.row(House.go(house, "hire 0 3 1/1;night")::contractAt), "1");
    Due.same("brokenTotal() after 4 of goblin 0", house.brokenTotal(), 5);
    Due.same("doneTotal()", house.doneTotal(), 1);
    Due.same("open after a night of an awake goblin", House.row(House.go(house, "hire 0 4 1/20;wake 0;night")::contractAt),
        "1 7");
    Due.same("brokenTotal()", house.brokenTotal(), 5);
  }

  private static final String FIFTH = "Fifth, if the number of nights is a multiple of 7, each debt d that is greater "
      + "than 0 increases by d / 10 + 1, but not beyond 999.";

  @Sentence(in = "Terms", says = FIFTH)
  static void interestInEachSeventhNight() {
    GoblinHousehold house = House.of("goblin 1;lend 0 10");
    int debt = 10;
    for (int night = 1; night <= 70; night++) {
      house.passNights(1);
      debt = night % 7 == 0 ? debt + debt / 10 + 1 : debt;
      Due.same("debt(0) in night " + night, house.debt(0), debt);
    }
  }

  @Sentence(in = "Terms", says = FIFTH)
  static void interestOfEachDebt() {
    GoblinHousehold house = House.of("goblin 1;goblin 1;goblin 1;goblin 1;goblin 1;lend 0 1;lend 2 9;lend 3 10;lend 4 50;"
        + "rest 4;night 7");
    Due.same("debt after a week", House.row(house::debt), "2 0 10 12 56");
    Due.same("interestTotal()", house.interestTotal(), 1 + 1 + 2 + 6);
    Due.same("purse, which interest leaves", House.row(house::purse), "1 0 9 10 50");
    Due.same("chest(), which interest leaves", house.chest(), 30);
    GoblinHousehold paidOff = House.of("goblin 1;lend 0 5;night 6;hire 0 0 5/1;night");
    Due.same("debt(0), paid off in the seventh night", paidOff.debt(0), 0);
    Due.same("interestTotal()", paidOff.interestTotal(), 0);
  }

  @Sentence(in = "Terms", says = FIFTH)
  static void interestNotBeyond() {
    int[] debts = {899, 900, 906, 907, 908, 909, 910, 998, 999};
    int[] due = {989, 991, 997, 998, 999, 999, 999, 999, 999};
    for (int i = 0; i < debts.length; i++) {
      GoblinHousehold house = withDebt(debts[i]);
      int interest = house.interestTotal();
      Due.same("the debt before", house.debt(0), debts[i]);
      Due.same("a debt of " + debts[i] + " before night 7", House.go(house, "night 5").debt(0), debts[i]);
      Due.same("a debt of " + debts[i] + " in night 7", House.go(house, "night").debt(0), due[i]);
      Due.same("interestTotal()", house.interestTotal() - interest, due[i] - debts[i]);
    }
  }

  /** One night after a multiple of 7, a debt that grew to 999 and of which then the most was paid off. */
  private static GoblinHousehold withDebt(int debt) {
    GoblinHousehold house = House.of("fund 999;goblin 9;lend 0 99;lend 0 99;lend 0 2;night 60;night 59");
    Due.same("the debt after 17 weeks", house.debt(0), 999);
    int left = 999 - debt;
    for (int room = 0; left > 0; room++) {
      int wage = Math.min(50, left);
      house.hire(0, room, wage, 1);
      left -= wage;
    }
    return House.go(house, "night");
  }

  @Sentence(in = "Terms",
      says = "When a contract is paid, the household pays its wage, but at most what is in the chest.")
  static void paidFromTheChest() {
    int[] chests = {0, 1, 29, 30, 31, 100};
    for (int chest : chests) {
      GoblinHousehold house = House.of("goblin 1;hire 0 0 30/1" + (chest == 100 ? "" : ";spend " + (100 - chest)));
      int paid = Math.min(chest, 30);
      Due.same("passNights(1) with " + chest, house.passNights(1), 1);
      Due.same("purse(0) with " + chest, house.purse(0), paid);
      Due.same("chest() with " + chest, house.chest(), chest - paid);
      Due.same("unpaidTotal() with " + chest, house.unpaidTotal(), 30 - paid);
    }
  }

  @Sentence(in = "Terms", says = "Of what is paid, the goblin first pays off its debt, as far as possible, into the "
      + "chest; the rest goes into its purse.")
  static void debtFirst() {
    int[] debts = {0, 1, 19, 20, 21, 60};
    for (int debt : debts) {
      GoblinHousehold house = House.of("goblin 1;" + (debt == 0 ? "" : "lend 0 " + debt + ";") + "hire 0 0 20/1;night");
      int paidOff = Math.min(debt, 20);
      Due.same("debt(0) of " + debt, house.debt(0), debt - paidOff);
      Due.same("purse(0) with a debt of " + debt, house.purse(0), debt + 20 - paidOff);
      Due.same("chest() with a debt of " + debt, house.chest(), 100 - debt - 20 + paidOff);
    }
    // With 8 crumbs in the chest, 8 are paid, not 20; they come back and are paid a second time.
    GoblinHousehold poor = House.of("goblin 2;lend 0 12;spend 80;hire 0 0 20/1;hire 0 1 20/1;night");
    Due.same("debt(0)", poor.debt(0), 0);
    Due.same("purse(0)", poor.purse(0), 12 + 4);
    Due.same("chest()", poor.chest(), 4);
    Due.same("unpaidTotal()", poor.unpaidTotal(), 24);
  }

  @Sentence(in = "Terms", says = "A contract is paid at most once.")
  static void paidOnce() {
    GoblinHousehold house = House.of("goblin 9;spend 80;hire 0 0 30/1;night;fund 999;night 60");
    Due.same("purse(0), also with crumbs in the chest again", house.purse(0), 20);
    Due.same("unpaidTotal()", house.unpaidTotal(), 10);
    Due.same("doneTotal()", house.doneTotal(), 1);
    Due.refused("cancelContract(0) of a paid one", ELEMENT, () -> house.cancelContract(0));
    Due.same("the room is free for another", house.hire(0, 0, 7, 1), 1);
    Due.same("purse(0)", House.go(house, "night;night").purse(0), 27);
    Due.same("purse(0) when the night is undone and passes again", House.go(house, "undo;undo;night").purse(0), 27);
    GoblinHousehold cancelled = House.of("goblin 9;hire 0 0 30/1;cancel 0;night;hire 0 0 30/1;rest 0;night 3;wake 0;night");
    Due.same("purse(0) after a cancelled and a broken one", cancelled.purse(0), 3);
  }

  private static final String BUSY = "fund 30;goblin 2;goblin 1;goblin 5;broom 4;lend 0 40;lend 1 30;lend 2 12;hire 0 0 30/4;"
      + "hire 0 1 20/4;hire 1 0 9/2;hire 1 1 50/1;hire 1 2 50/2;hire 2 3 12/11;hire 0 5 50/3;night 4;";

  @Sentence(in = "Terms",
      says = "A prediction describes what would happen if nothing but nights happened from now on.")
  static void predictions() {
    for (String start : new String[] {BUSY + "undo;", BUSY + "undo;rest 0;", BUSY + "undo;rest 1;night 2;", BUSY}) {
      GoblinHousehold house = House.of(start + "save");
      int[] chests = new int[61];
      int[] debts = new int[61];
      for (int nights = 0; nights <= 60; nights++) {
        chests[nights] = house.chestAfter(nights);
        debts[nights] = house.debtAfter(1, nights);
      }
      Due.same("chestAfter(0)", chests[0], house.chest());
      Due.same("debtAfter(1, 0)", debts[0], house.debt(1));
      for (int nights = 1; nights <= 60; nights++) {
        house.passNights(nights);
        Due.same("chestAfter(" + nights + ")", chests[nights], house.chest());
        Due.same("debtAfter(1, " + nights + ")", debts[nights], house.debt(1));
        house.restore();
      }
      for (int position = 0; position < house.openContracts(); position++) {
        nightsUntilDone(house, house.contractAt(position));
      }
    }
  }

  /** In a house that is as its snapshot: a contract that goes in a night is done, or broken if its goblin rests. */
  private static void nightsUntilDone(GoblinHousehold house, int contract) {
    Object predicted = Due.outcome(() -> house.nightsUntilDone(contract));
    Object due = IllegalStateException.class;
    boolean rests = house.isResting(house.goblinOf(contract));
    for (int night = 1; night <= 60 && due instanceof Class; night++) {
      house.passNights(1);
      boolean gone = Due.outcome(() -> house.wage(contract)) == ELEMENT;
      due = gone && !rests ? night : due;
    }
    Due.same("nightsUntilDone(" + contract + ")", predicted, due);
    house.restore();
  }

  @Sentence(in = "Terms", says = "It does not change the state.")
  static void predictionsChangeNothing() {
    String start = BUSY + "undo;";
    Unchanged.answered(House.of(start + "night 60").chest(), start, "chestAfter(60)", house -> house.chestAfter(60));
    Unchanged.answered(House.of(start).chest(), start, "chestAfter(0)", house -> house.chestAfter(0));
    Unchanged.answered(House.of(start + "night 60").debt(1), start, "debtAfter(1, 60)", house -> house.debtAfter(1, 60));
    Unchanged.answered(2, start, "nightsUntilDone(1)", house -> house.nightsUntilDone(1));
    Unchanged.refused(IllegalStateException.class, start, "nightsUntilDone(5)", house -> house.nightsUntilDone(5));
    Unchanged.refused(IllegalArgumentException.class, start, "chestAfter(61)", house -> house.chestAfter(61));
    Unchanged.refused(IllegalArgumentException.class, start, "debtAfter(1, 61)", house -> house.debtAfter(1, 61));
  }
}
