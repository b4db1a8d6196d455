/** Promises 36 to 48. */
final class TotalBoundaries {
  private static final Class<?> INDEX = IndexOutOfBoundsException.class;
  private static final Class<?> ARGUMENT = IllegalArgumentException.class;

  // Promises 36 and 37

  @Sentence(in = "Promise 36", says = "Predicts the crumbs in the chest.")
  static void chestAfter() {
    String start = "goblin 1;spend 40;lend 0 9;hire 0 0 50/1;hire 0 1 20/1;hire 0 2 1/1;";
    int[] due = {51, 10, 0, 0, 0};
    for (int nights = 0; nights < due.length; nights++) {
      Due.same("chestAfter(" + nights + ")", House.of(start).chestAfter(nights), due[nights]);
    }
    Due.same("chestAfter(60)", House.of(start).chestAfter(60), 0);
    Due.same("chestAfter(60) when the contracts break", House.of(start + "rest 0").chestAfter(60), 51);
    Due.same("chestAfter(60) without goblins", House.of("fund 999").chestAfter(60), 1099);
  }

  @Sentence(in = "Promise 36", says = "Throws IllegalArgumentException if the number of nights is not between 0 and 60")
  static void nightsOfTheChest() {
    for (int nights : House.outside(0, 60)) {
      Unchanged.refused(ARGUMENT, "goblin 1;hire 0 0 9/1", "chestAfter(" + nights + ")",
          house -> house.chestAfter(nights));
    }
    Due.same("chestAfter(0)", House.of("goblin 1;hire 0 0 9/1").chestAfter(0), 100);
    Due.same("chestAfter(1)", House.of("goblin 1;hire 0 0 9/1").chestAfter(1), 91);
    Due.same("chestAfter(60)", House.of("goblin 1;hire 0 0 9/1").chestAfter(60), 91);
  }

  @Sentence(in = "Promise 37", says = "Predicts the debt of a goblin.")
  static void debtAfter() {
    String start = "goblin 1;goblin 1;lend 0 20;lend 1 30;hire 0 0 12/1;hire 0 1 12/1;";
    int[] due = {20, 8, 0, 0, 0, 0, 0, 0};
    int[] dueOfOther = {30, 30, 30, 30, 30, 30, 30, 34};
    for (int nights = 0; nights < due.length; nights++) {
      Due.same("debtAfter(0, " + nights + ")", House.of(start).debtAfter(0, nights), due[nights]);
      Due.same("debtAfter(1, " + nights + ")", House.of(start).debtAfter(1, nights), dueOfOther[nights]);
    }
    Due.same("debtAfter(1, 1) in the sixth night", House.of(start + "night 6").debtAfter(1, 1), 34);
    Due.same("debtAfter(1, 6) in the seventh night", House.of(start + "night 7").debtAfter(1, 6), 34);
    Due.same("debtAfter(1, 7) in the seventh night", House.of(start + "night 7").debtAfter(1, 7), 38);
    Due.same("debtAfter(0, 60) at its end", House.of("fund 999;goblin 1;lend 0 99;lend 0 99;night 60;night 40")
        .debtAfter(0, 60), 999);
  }

  @Sentence(in = "Promise 37", says = "Throws IndexOutOfBoundsException if there is no such goblin")
  static void debtOfNobody() {
    String[] starts = {"", "goblin 1;goblin 1;undo;lend 0 9", "goblin 1;goblin 2;goblin 3;goblin 4;goblin 5;lend 4 9"};
    int[] counts = {0, 1, 5};
    for (int i = 0; i < starts.length; i++) {
      for (int goblin : House.outside(0, counts[i] - 1)) {
        Unchanged.refused(INDEX, starts[i], "debtAfter(" + goblin + ", 0)", house -> house.debtAfter(goblin, 0));
        Unchanged.refused(INDEX, starts[i], "debtAfter(" + goblin + ", 60)", house -> house.debtAfter(goblin, 60));
      }
    }
    Due.same("debtAfter(0, 0)", House.of(starts[1]).debtAfter(0, 0), 9);
    Due.same("debtAfter(4, 0)", House.of(starts[2]).debtAfter(4, 0), 9);
  }

  @Sentence(in = "Promise 37", says = "Throws IllegalArgumentException if the number of nights is not between 0 and 60")
  static void nightsOfTheDebt() {
    for (int nights : House.outside(0, 60)) {
      Unchanged.refused(ARGUMENT, "goblin 1;lend 0 9", "debtAfter(0, " + nights + ")",
          house -> house.debtAfter(0, nights));
    }
    Due.same("debtAfter(0, 0)", House.of("goblin 1;lend 0 1").debtAfter(0, 0), 1);
    Due.same("debtAfter(0, 55), before week 8", House.of("goblin 1;lend 0 1").debtAfter(0, 55), 8);
    Due.same("debtAfter(0, 56)", House.of("goblin 1;lend 0 1").debtAfter(0, 56), 9);
    Due.same("debtAfter(0, 60) from night 2, before week 9", House.of("goblin 1;lend 0 1;night 2").debtAfter(0, 60), 9);
    Due.same("debtAfter(0, 60) from night 3", House.of("goblin 1;lend 0 1;night 3").debtAfter(0, 60), 10);
  }

  // Promises 38 to 41

  @Sentence(in = "Promise 38", says = "Returns the number of nights that have passed.")
  static void night() {
    Due.same("night() of a new house", House.of("").night(), 0);
    Due.same("night() after 60", House.of("night 60").night(), 60);
    Due.same("night() after 61", House.of("night 60;night").night(), 61);
    GoblinHousehold house = House.of("goblin 1;hire 0 0 1/1");
    house.chestAfter(60);
    house.debtAfter(0, 60);
    house.nightsUntilDone(0);
    Due.same("night() after predictions", house.night(), 0);
  }

  @Sentence(in = "Promise 39", says = "Returns the crumbs in the chest.")
  static void chest() {
    Due.same("chest() of a new house", House.of("").chest(), 100);
    Due.same("chest() that is empty", House.of("spend 100").chest(), 0);
    Due.same("chest() with 999 more", House.of("fund 999").chest(), 1099);
    Due.same("chest() that pays more than it has", House.of("spend 99;goblin 1;hire 0 0 50/1;night").chest(), 0);
  }

  @Sentence(in = "Promise 40", says = "Returns the crumbs in the chest and in all purses.")
  static void allCrumbs() {
    Due.same("allCrumbs() without goblins", House.of("").allCrumbs(), 100);
    Due.same("allCrumbs() without crumbs", House.of("spend 100;goblin 1").allCrumbs(), 0);
    Due.same("allCrumbs() in purses alone", House.of("goblin 1;lend 0 99;spend 1").allCrumbs(), 99);
    Due.same("allCrumbs() of five purses and the chest", House.of("goblin 1;goblin 1;goblin 1;goblin 1;goblin 1;lend 0 1;"
        + "lend 1 2;lend 2 4;lend 3 8;lend 4 16;spend 68").allCrumbs(), 32);
  }

  @Sentence(in = "Promise 41", says = "Returns the same number as allCrumbs: the 100 initial crumbs plus the funded ones "
      + "minus the spent ones.")
  static void allCrumbsByAccounts() {
    String[] starts = {"", "spend 100", "fund 999", "fund 1;spend 2", "fund 999;spend 999", "fund 7;undo", "spend 7;undo",
        "save;fund 7;spend 9;restore", "goblin 1;lend 0 99;night 60", "goblin 1;spend 90;hire 0 0 50/1;night",
        "goblin 1;hire 0 0 50/1;cancel 0"};
    int[] due = {100, 0, 1099, 99, 100, 100, 100, 100, 100, 10, 100};
    for (int i = 0; i < starts.length; i++) {
      Due.same("allCrumbsByAccounts() after \"" + starts[i] + "\"", House.of(starts[i]).allCrumbsByAccounts(), due[i]);
      Due.same("allCrumbs() after \"" + starts[i] + "\"", House.of(starts[i]).allCrumbs(), due[i]);
    }
  }

  // Promises 42 to 45

  @Sentence(in = "Promise 42", says = "Returns the number of contracts that have been done so far.")
  static void doneTotal() {
    String start = "goblin 2;goblin 1;hire 0 0 1/1;hire 0 1 1/1;hire 0 2 1/1;hire 1 0 1/2;";
    Due.same("doneTotal() of a new house", House.of("").doneTotal(), 0);
    Due.same("doneTotal() before a night", House.of(start).doneTotal(), 0);
    Due.same("doneTotal() after a night", House.of(start + "night").doneTotal(), 2);
    Due.same("doneTotal() after many", House.of(start + "night 60").doneTotal(), 3);
    Due.same("doneTotal() of a cancelled one", House.of(start + "cancel 2;night 60").doneTotal(), 2);
    Due.same("doneTotal() of broken ones", House.of(start + "rest 0;night 60").doneTotal(), 0);
    Due.same("doneTotal() of unpaid ones", House.of(start + "spend 100;night 60").doneTotal(), 3);
    Due.same("doneTotal() undone", House.of(start + "night;undo").doneTotal(), 0);
  }

  @Sentence(in = "Promise 43", says = "Returns the number of contracts that have been broken so far.")
  static void brokenTotal() {
    String start = "goblin 2;goblin 1;hire 0 0 1/1;hire 0 1 1/1;hire 0 2 1/1;hire 1 0 1/2;rest 0;";
    Due.same("brokenTotal() of a new house", House.of("").brokenTotal(), 0);
    Due.same("brokenTotal() after 2 skipped nights", House.of(start + "night 2").brokenTotal(), 0);
    Due.same("brokenTotal() after 3", House.of(start + "night 3").brokenTotal(), 3);
    Due.same("brokenTotal() after many", House.of(start + "night 60").brokenTotal(), 3);
    Due.same("brokenTotal() of a cancelled one", House.of(start + "cancel 2;night 3").brokenTotal(), 2);
    Due.same("brokenTotal() of all", House.of(start + "rest 1;night 3").brokenTotal(), 4);
    Due.same("brokenTotal() when hired at rest", House.of(start + "night 3;hire 0 5 1/1;night").brokenTotal(), 4);
    Due.same("brokenTotal() undone", House.of(start + "night 3;undo").brokenTotal(), 0);
  }

  @Sentence(in = "Promise 44",
      says = "Returns the sum of the wages that could not be paid so far because the chest was too empty.")
  static void unpaidTotal() {
    Due.same("unpaidTotal() of a new house", House.of("").unpaidTotal(), 0);
    int[] chests = {100, 81, 80, 79, 50, 31, 30, 1, 0};
    int[] due = {0, 0, 0, 1, 30, 49, 50, 79, 80};
    for (int i = 0; i < chests.length; i++) {
      String start = "goblin 2;hire 0 0 50/1;hire 0 1 30/1;" + (chests[i] == 100 ? "" : "spend " + (100 - chests[i]) + ";");
      Due.same("unpaidTotal() with " + chests[i], House.of(start + "night").unpaidTotal(), due[i]);
      Due.same("unpaidTotal() before", House.of(start).unpaidTotal(), 0);
      Due.same("unpaidTotal() with a full chest later", House.of(start + "night;fund 999;night 9").unpaidTotal(), due[i]);
      Due.same("unpaidTotal() undone", House.of(start + "night;undo").unpaidTotal(), 0);
    }
    Due.same("unpaidTotal() of broken ones", House.of("goblin 1;hire 0 0 50/1;spend 100;rest 0;night 3").unpaidTotal(), 0);
    Due.same("unpaidTotal() of a cancelled one", House.of("goblin 1;hire 0 0 50/1;spend 100;cancel 0").unpaidTotal(), 0);
    Due.same("unpaidTotal() of what pays off a debt",
        House.of("goblin 1;lend 0 99;spend 1;hire 0 0 50/1;night;fund 20;hire 0 0 50/1;night").unpaidTotal(), 80);
  }

  @Sentence(in = "Promise 45",
      says = "Returns by how much debts have increased by the fifth step of nights so far.")
  static void interestTotal() {
    String start = "fund 999;goblin 1;goblin 1;lend 0 99;lend 0 99;lend 0 2;";
    Due.same("interestTotal() of a new house", House.of("").interestTotal(), 0);
    Due.same("interestTotal() of loans alone", House.of(start + "night 6").interestTotal(), 0);
    Due.same("interestTotal() of a week", House.of(start + "night 7").interestTotal(), 21);
    Due.same("interestTotal() of two debts", House.of(start + "lend 1 9;night 7").interestTotal(), 22);
    Due.same("interestTotal() of two weeks", House.of(start + "night 14").interestTotal(), 21 + 23);
    Due.same("interestTotal() of a debt of 999", House.of(start + "night 60;night 60;night 60").interestTotal(), 799);
    Due.same("interestTotal() of a debt paid off in part", House.of(start + "hire 0 0 50/1;night 7").interestTotal(), 16);
    Due.same("interestTotal() of a debt paid off later", House.of(start + "night 7;hire 0 0 50/1;night").interestTotal(), 21);
    Due.same("interestTotal() of many nights without debts", House.of("goblin 1;night 60").interestTotal(), 0);
    Due.same("interestTotal() undone", House.of(start + "night 7;undo").interestTotal(), 0);
  }

  // Promises 46 to 48

  @Sentence(in = "Promise 46", says = "Returns the mean dust of the rooms: the sum divided by 6, both converted to double.")
  static void meanDust() {
    String cleaned = "goblin 9;broom 20;hire 0 0 1/1;hire 0 1 1/1;hire 0 2 1/1;hire 0 3 1/1;hire 0 4 1/1;hire 0 5 1/1;night";
    Due.same("the least mean", House.of(cleaned).meanDust(), 0.0);
    Due.same("the most mean", House.of("night 27").meanDust(), 99.0);
    Due.same("before the most", House.of("night 26").meanDust(), 98.0);
    Due.same("the mean of a new house", House.of("").meanDust(), 20.0);
    Due.same("a mean that is no whole number", House.of("goblin 1;hire 0 5 1/1;night").meanDust(), 128.0 / 6.0);
    Due.same("another", House.of("goblin 1;broom 3;hire 0 0 1/1;night").meanDust(), 125.0 / 6.0);
    Due.same("another", House.of("goblin 1;broom 1;hire 0 0 1/1;night").meanDust(), 127.0 / 6.0);
  }

  private static final String TWO_EACH = "goblin 1;goblin 1;hire 0 0 1/1;hire 0 1 1/1;hire 1 0 1/1;hire 1 1 1/1;";

  @Sentence(in = "Promise 47", says = "Returns the share of done contracts among those that are done or broken, both "
      + "numbers converted to float.")
  static void reliability() {
    Due.same("all done", House.of(TWO_EACH + "night 2").reliability(), 1.0f);
    Due.same("all broken", House.of(TWO_EACH + "rest 0;rest 1;night 3").reliability(), 0.0f);
    Due.same("half of them", House.of(TWO_EACH + "rest 0;night 3").reliability(), 0.5f);
    Due.same("two of three", House.of(TWO_EACH + "rest 0;cancel 0;night 3").reliability(), 2.0f / 3.0f);
    Due.same("one of three", House.of(TWO_EACH + "rest 0;cancel 2;night 3").reliability(), 1.0f / 3.0f);
    Due.same("one alone", House.of("goblin 1;hire 0 0 1/1;night").reliability(), 1.0f);
    Due.same("one of seven", House.of("goblin 1;goblin 1;hire 0 0 1/1;hire 0 1 1/1;hire 0 2 1/1;hire 0 3 1/1;hire 0 4 1/1;"
        + "hire 0 5 1/1;hire 1 0 1/1;hire 1 1 1/2;rest 0;night 3").reliability(), 1.0f / 7.0f);
  }

  @Sentence(in = "Promise 47", says = "Throws ArithmeticException if no contract is done or broken")
  static void noneDoneOrBroken() {
    Class<?> due = ArithmeticException.class;
    Unchanged.refused(due, "", "reliability()", GoblinHousehold::reliability);
    Unchanged.refused(due, TWO_EACH, "reliability()", GoblinHousehold::reliability);
    Unchanged.refused(due, TWO_EACH + "cancel 0;cancel 3", "reliability()", GoblinHousehold::reliability);
    Unchanged.refused(due, TWO_EACH + "rest 0;rest 1;night 2", "reliability()", GoblinHousehold::reliability);
    Unchanged.refused(due, TWO_EACH + "night;undo", "reliability()", GoblinHousehold::reliability);
    Due.same("reliability() of one broken", House.of(TWO_EACH + "rest 0;cancel 2;cancel 3;cancel 0;night 3").reliability(),
        0.0f);
  }

  @Sentence(in = "Promise 48", says = "Checks the state: both ways to find the best wages agree for all goblins, allCrumbs "
      + "and allCrumbsByAccounts agree, no number of crumbs is negative, and no goblin has two open contracts for the "
      + "same room.")
  static void checked() {
    String five = "goblin 1;goblin 3;goblin 5;goblin 7;goblin 9;";
    String[] starts = {"spend 100", "fund 999", five + "spend 100;hire 0 0 50/1;night", five + "lend 0 99;spend 1;night 60",
        five + "hire 0 3 1/1;hire 1 3 1/1;hire 2 3 1/1;hire 3 3 1/1;hire 4 3 1/1", five + "broom 1;broom 2;broom 3;broom 4;"
        + "hire 4 0 50/8;hire 4 1 49/8;hire 4 2 48/8;hire 4 3 47/8;hire 4 4 46/7;hire 4 5 45/7;hire 3 0 1/20;hire 2 0 1/20",
        five + "hire 0 3 1/1;night;hire 0 3 1/1", five + "hire 0 3 1/1;undo;hire 0 3 1/1", five + "spend 97;hire 0 0 50/1;"
        + "cancel 0", "fund 999;goblin 1;lend 0 99;lend 0 99;lend 0 2;night 60;night 60;hire 0 0 50/1;night"};
    for (String start : starts) {
      Due.same("isConsistent() after \"" + start + "\"", House.of(start).isConsistent(), true);
    }
  }

  @Sentence(in = "Promise 48", says = "Returns true if all of this holds.")
  static void consistent() {
    Due.same("isConsistent() of a new house", House.of("").isConsistent(), true);
    Due.same("isConsistent() of an undone house", House.of("goblin 1;undo").isConsistent(), true);
    Unchanged.answered(true, "goblin 1;lend 0 9;hire 0 0 5/1", "isConsistent()", GoblinHousehold::isConsistent);
  }
}
