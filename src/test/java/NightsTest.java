// Promise 13, with the steps of a night and the pay.
public final class NightsTest {
  public static void main(String[] args) {
    bounds();
    dust();
    energyAndOrder();
    pay();
    restAndBreak();
    interest();
    orderOfGoblins();
    Due.end();
  }

  private static void bounds() {
    GoblinHousehold house = new GoblinHousehold();
    for (int wrong : new int[] {-1, 0, 61, Integer.MIN_VALUE, Integer.MAX_VALUE}) {
      String before = Due.state(house);
      Due.refused("passNights(" + wrong + ")", IllegalArgumentException.class, () -> house.passNights(wrong));
      Due.same("the state after it", Due.state(house), before);
    }
    Due.same("passNights(1)", house.passNights(1), 0);
    Due.same("night()", house.night(), 1);
    Due.same("passNights(60)", house.passNights(60), 0);
    Due.same("night()", house.night(), 61);
  }

  private static void dust() {
    GoblinHousehold house = new GoblinHousehold();
    house.passNights(26);
    Due.same("dust(0) after 26 nights", house.dust(0), 98);
    house.passNights(1);
    Due.same("dust(0) after 27 nights", house.dust(0), 99);
    house.passNights(1);
    Due.same("dust(5) after 28 nights", house.dust(5), 99);
    house.addGoblin(9);
    house.hire(0, 0, 1, 1);
    house.passNights(1);
    Due.same("dust(0) cleaned without a broom", house.dust(0), 89);
    Due.same("dust(1)", house.dust(1), 99);
    house.addBroom(7);
    house.addBroom(20);
    house.addBroom(11);
    house.hire(0, 1, 1, 1);
    house.passNights(1);
    Due.same("dust(1) cleaned with power 20", house.dust(1), 69);
    house.banishBroom(1);
    house.hire(0, 2, 1, 1);
    house.passNights(1);
    Due.same("dust(2) cleaned with power 11", house.dust(2), 78);
    house.banishBroom(0);
    house.banishBroom(2);
    house.hire(0, 3, 1, 1);
    house.passNights(1);
    Due.same("dust(3) cleaned with all brooms banished", house.dust(3), 89);

    GoblinHousehold clean = new GoblinHousehold();
    clean.addGoblin(9);
    clean.addGoblin(9);
    clean.addBroom(13);
    clean.hire(0, 4, 1, 1);
    clean.passNights(1);
    Due.same("dust(4), exactly cleaned", clean.dust(4), 0);
    clean.hire(0, 4, 1, 1);
    clean.hire(1, 4, 1, 1);
    clean.passNights(1);
    Due.same("dust(4), not below 0", clean.dust(4), 0);
    clean.passNights(1);
    Due.same("dust(4) a night later", clean.dust(4), 3);
  }

  private static void energyAndOrder() {
    GoblinHousehold house = new GoblinHousehold();
    house.addGoblin(3);
    house.addBroom(1);
    house.addBroom(1);
    house.hire(0, 0, 1, 4);
    house.hire(0, 1, 1, 5);
    house.hire(0, 2, 1, 9);
    house.hire(0, 3, 1, 1);
    Due.same("passNights(1) with energy 9, used up", house.passNights(1), 2);
    Due.same("contractAt(0)", house.contractAt(0), 2);
    house.banishBroom(0);
    Due.same("the first contract that does not fit ends the work", house.passNights(1), 0);
    Due.same("openContracts()", house.openContracts(), 2);
    house.recallBroom(0);
    Due.same("passNights(2)", house.passNights(2), 2);
    Due.same("doneTotal()", house.doneTotal(), 4);

    GoblinHousehold one = new GoblinHousehold();
    one.addGoblin(5);
    one.hire(0, 0, 1, 5);
    Due.same("effort as great as the energy", one.passNights(1), 1);
    one.hire(0, 0, 1, 6);
    Due.same("effort beyond the energy", one.passNights(1), 0);
    Due.same("energy is not kept for the next night", one.passNights(60), 0);
  }

  private static void pay() {
    GoblinHousehold house = new GoblinHousehold();
    house.addGoblin(9);
    house.lend(0, 30);
    house.hire(0, 0, 20, 1);
    house.passNights(1);
    Due.same("purse(0), all paid off", house.purse(0), 30);
    Due.same("debt(0)", house.debt(0), 10);
    Due.same("chest()", house.chest(), 70);
    house.hire(0, 0, 25, 1);
    house.passNights(1);
    Due.same("purse(0), the rest kept", house.purse(0), 45);
    Due.same("debt(0)", house.debt(0), 0);
    Due.same("chest()", house.chest(), 55);
    house.spend(45);
    house.hire(0, 0, 10, 1);
    house.hire(0, 1, 7, 1);
    Due.same("passNights(1)", house.passNights(1), 2);
    Due.same("purse(0)", house.purse(0), 55);
    Due.same("chest()", house.chest(), 0);
    Due.same("unpaidTotal()", house.unpaidTotal(), 7);
    house.fund(3);
    house.hire(0, 0, 10, 1);
    house.passNights(2);
    Due.same("paid once, with what is there", house.purse(0), 58);
    Due.same("unpaidTotal()", house.unpaidTotal(), 14);
    house.fund(10);
    house.lend(0, 8);
    house.hire(0, 0, 50, 1);
    house.hire(0, 1, 50, 1);
    house.passNights(1);
    Due.same("a debt is paid off with what is paid, not with the wage", house.debt(0), 4);
    Due.same("purse(0)", house.purse(0), 66);
    Due.same("chest()", house.chest(), 2);
    Due.same("unpaidTotal()", house.unpaidTotal(), 14 + 48 + 48);
  }

  private static void restAndBreak() {
    GoblinHousehold house = new GoblinHousehold();
    house.addGoblin(9);
    house.addGoblin(1);
    house.hire(0, 0, 1, 1);
    house.hire(1, 0, 1, 20);
    house.hire(0, 1, 1, 1);
    house.rest(0);
    Due.same("passNights(2) at rest", house.passNights(2), 0);
    Due.same("openContracts()", house.openContracts(), 3);
    house.passNights(1);
    Due.same("openContracts() after 3 skipped nights", house.openContracts(), 1);
    Due.same("contractAt(0)", house.contractAt(0), 1);
    Due.same("brokenTotal()", house.brokenTotal(), 2);
    house.hire(0, 2, 1, 1);
    house.passNights(1);
    Due.same("brokenTotal() after 4 skipped nights", house.brokenTotal(), 3);
    house.hire(0, 3, 1, 1);
    Due.same("wake(0)", house.wake(0), 4);
    Due.same("a goblin that is awake again works", house.passNights(1), 1);
    Due.same("skippedNights(0)", house.skippedNights(0), 0);
    Due.same("brokenTotal()", house.brokenTotal(), 3);
    Due.same("doneTotal()", house.doneTotal(), 1);
    Due.same("chest(), which broken contracts do not touch", house.chest(), 99);
  }

  private static void interest() {
    GoblinHousehold house = new GoblinHousehold();
    house.fund(999);
    house.addGoblin(9);
    house.addGoblin(1);
    house.addGoblin(1);
    house.lend(0, 9);
    house.lend(1, 20);
    house.passNights(6);
    Due.same("debt(0) before night 7", house.debt(0), 9);
    house.passNights(1);
    Due.same("debt(0) at night 7", house.debt(0), 10);
    Due.same("debt(1) at night 7", house.debt(1), 23);
    Due.same("debt(2), which is 0", house.debt(2), 0);
    Due.same("interestTotal()", house.interestTotal(), 4);
    house.passNights(7);
    Due.same("debt(0) at night 14", house.debt(0), 12);
    Due.same("debt(1) at night 14", house.debt(1), 26);
    Due.same("purse(0)", house.purse(0), 9);
    Due.same("chest()", house.chest(), 1070);
    house.passNights(6);
    house.hire(0, 0, 12, 1);
    house.passNights(1);
    Due.same("a debt paid off in the night bears no interest", house.debt(0), 0);
    Due.same("interestTotal()", house.interestTotal(), 4 + 5 + 3);

    house.lend(2, 1);
    house.passNights(7);
    Due.same("debt(2) of 1 crumb", house.debt(2), 2);

    GoblinHousehold deep = new GoblinHousehold();
    deep.fund(999);
    deep.addGoblin(1);
    deep.lend(0, 99);
    deep.lend(0, 99);
    deep.lend(0, 2);
    int debt = 200;
    for (int week = 0; week < 20; week++) {
      deep.passNights(7);
      debt = Math.min(999, debt + debt / 10 + 1);
      Due.same("debt(0) in week " + week, deep.debt(0), debt);
      Due.same("interestTotal()", deep.interestTotal(), debt - 200);
    }
    Due.same("debt(0) at its end", deep.debt(0), 999);
  }

  private static void orderOfGoblins() {
    GoblinHousehold house = new GoblinHousehold();
    house.addGoblin(1);
    house.addGoblin(1);
    house.hire(1, 0, 50, 1);
    house.hire(0, 0, 50, 1);
    house.spend(40);
    house.passNights(1);
    Due.same("purse(0), paid first", house.purse(0), 50);
    Due.same("purse(1), paid then", house.purse(1), 10);
  }
}
