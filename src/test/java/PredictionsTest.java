// Promises 36 and 37.
public final class PredictionsTest {
  public static void main(String[] args) {
    GoblinHousehold house = new GoblinHousehold();
    Due.refused("debtAfter without goblins", IndexOutOfBoundsException.class, () -> house.debtAfter(0, 0));
    house.addGoblin(5);
    house.addGoblin(1);
    house.lend(0, 20);
    house.lend(1, 10);
    house.hire(0, 0, 12, 5);
    house.hire(0, 1, 30, 5);
    Due.same("chestAfter(0)", house.chestAfter(0), 70);
    Due.same("chestAfter(1)", house.chestAfter(1), 70);
    Due.same("chestAfter(2)", house.chestAfter(2), 48);
    Due.same("chestAfter(60)", house.chestAfter(60), 48);
    Due.same("debtAfter(0, 0)", house.debtAfter(0, 0), 20);
    Due.same("debtAfter(0, 1)", house.debtAfter(0, 1), 8);
    Due.same("debtAfter(0, 2)", house.debtAfter(0, 2), 0);
    Due.same("debtAfter(1, 6)", house.debtAfter(1, 6), 10);
    Due.same("debtAfter(1, 7)", house.debtAfter(1, 7), 12);
    Due.same("debtAfter(1, 14)", house.debtAfter(1, 14), 14);

    GoblinHousehold same = new GoblinHousehold();
    same.addGoblin(1);
    same.lend(0, 99);
    same.passNights(3);
    same.save();
    int[] debts = new int[61];
    for (int nights = 0; nights <= 60; nights++) {
      debts[nights] = same.debtAfter(0, nights);
    }
    for (int nights = 1; nights <= 60; nights++) {
      same.passNights(nights);
      Due.same("debt(0) after " + nights, same.debt(0), debts[nights]);
      same.restore();
    }

    String before = Due.state(house);
    for (int wrong : new int[] {-1, 61, Integer.MIN_VALUE, Integer.MAX_VALUE}) {
      Due.refused("chestAfter(" + wrong + ")", IllegalArgumentException.class, () -> house.chestAfter(wrong));
      Due.refused("debtAfter(1, " + wrong + ")", IllegalArgumentException.class, () -> house.debtAfter(1, wrong));
      Due.refused("debtAfter(2, " + wrong + ")", IndexOutOfBoundsException.class, () -> house.debtAfter(2, wrong));
    }
    Due.refused("debtAfter(-1, 1)", IndexOutOfBoundsException.class, () -> house.debtAfter(-1, 1));
    Due.refused("debtAfter(2, 1)", IndexOutOfBoundsException.class, () -> house.debtAfter(2, 1));
    Due.same("the state after predictions", Due.state(house), before);
    Due.same("undo() after predictions", house.undo(), 5);
    Due.end();
  }
}
