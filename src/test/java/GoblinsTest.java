import java.util.NoSuchElementException;

// Promises 19 to 28.
public final class GoblinsTest {
  public static void main(String[] args) {
    getters();
    energy();
    wealth();
    bestWages();
    Due.end();
  }

  private static void refusedForAll(GoblinHousehold house, int goblin) {
    Class<?> due = IndexOutOfBoundsException.class;
    Due.refused("strength(" + goblin + ")", due, () -> house.strength(goblin));
    Due.refused("purse(" + goblin + ")", due, () -> house.purse(goblin));
    Due.refused("debt(" + goblin + ")", due, () -> house.debt(goblin));
    Due.refused("skippedNights(" + goblin + ")", due, () -> house.skippedNights(goblin));
    Due.refused("isResting(" + goblin + ")", due, () -> house.isResting(goblin));
    Due.refused("energy(" + goblin + ")", due, () -> house.energy(goblin));
    Due.refused("bestWages(" + goblin + ")", due, () -> house.bestWages(goblin));
    Due.refused("bestWagesByTable(" + goblin + ")", due, () -> house.bestWagesByTable(goblin));
  }

  private static void getters() {
    GoblinHousehold house = new GoblinHousehold();
    Due.same("goblinCount()", house.goblinCount(), 0);
    refusedForAll(house, 0);
    house.addGoblin(9);
    house.addGoblin(4);
    Due.same("goblinCount()", house.goblinCount(), 2);
    house.lend(1, 12);
    house.rest(1);
    house.passNights(2);
    Due.same("strength(0)", house.strength(0), 9);
    Due.same("strength(1)", house.strength(1), 4);
    Due.same("purse(0)", house.purse(0), 0);
    Due.same("purse(1)", house.purse(1), 12);
    Due.same("debt(0)", house.debt(0), 0);
    Due.same("debt(1)", house.debt(1), 12);
    Due.same("skippedNights(0)", house.skippedNights(0), 0);
    Due.same("skippedNights(1)", house.skippedNights(1), 2);
    Due.same("isResting(0)", house.isResting(0), false);
    Due.same("isResting(1)", house.isResting(1), true);
    for (int wrong : new int[] {-1, 2, 4, 5, Integer.MIN_VALUE, Integer.MAX_VALUE}) {
      refusedForAll(house, wrong);
    }
  }

  private static void energy() {
    GoblinHousehold house = new GoblinHousehold();
    house.addGoblin(9);
    house.addGoblin(1);
    Due.same("energy(0) without brooms", house.energy(0), 9);
    for (int i = 1; i <= 4; i++) {
      house.addBroom(i);
      Due.same("energy(0)", house.energy(0), 9 * (i + 1));
      Due.same("energy(1)", house.energy(1), i + 1);
    }
    house.banishBroom(2);
    Due.same("energy(0) with a banished broom", house.energy(0), 36);
    house.rest(0);
    Due.same("energy(0) at rest", house.energy(0), 36);
  }

  private static void wealth() {
    GoblinHousehold house = new GoblinHousehold();
    Due.refused("goblinByWealth(0)", NoSuchElementException.class, () -> house.goblinByWealth(0));
    house.addGoblin(3);
    house.addGoblin(5);
    house.addGoblin(3);
    house.addGoblin(5);
    house.addGoblin(1);
    int[] byStrength = {1, 3, 0, 2, 4};
    for (int i = 0; i < 5; i++) {
      Due.same("goblinByWealth(" + i + ") of the poor", house.goblinByWealth(i), byStrength[i]);
    }
    house.lend(1, 40);
    Due.same("goblinByWealth(0), as a loan makes nobody wealthier", house.goblinByWealth(0), 1);
    house.hire(4, 0, 5, 1);
    house.hire(2, 0, 4, 1);
    house.passNights(7);
    int[] byWealth = {4, 2, 3, 0, 1};
    for (int i = 0; i < 5; i++) {
      Due.same("goblinByWealth(" + i + ")", house.goblinByWealth(i), byWealth[i]);
    }
    for (int wrong : new int[] {-1, 5, Integer.MIN_VALUE, Integer.MAX_VALUE}) {
      Due.refused("goblinByWealth(" + wrong + ")", NoSuchElementException.class, () -> house.goblinByWealth(wrong));
    }
  }

  private static void best(GoblinHousehold house, int goblin, int due) {
    Due.same("bestWages(" + goblin + ")", house.bestWages(goblin), due);
    Due.same("bestWagesByTable(" + goblin + ")", house.bestWagesByTable(goblin), due);
  }

  private static void bestWages() {
    GoblinHousehold house = new GoblinHousehold();
    house.addGoblin(9);
    house.addGoblin(2);
    best(house, 0, 0);
    house.hire(0, 0, 50, 10);
    best(house, 0, 0);
    house.hire(0, 1, 10, 9);
    best(house, 0, 10);
    house.hire(1, 0, 49, 2);
    best(house, 0, 10);
    best(house, 1, 49);
    house.hire(0, 2, 6, 5);
    house.hire(0, 3, 5, 4);
    best(house, 0, 11);
    house.rest(0);
    best(house, 0, 11);
    house.addBroom(1);
    best(house, 0, 56);
    house.addBroom(1);
    best(house, 0, 66);
    house.banishBroom(0);
    house.banishBroom(1);
    house.cancelContract(4);
    best(house, 0, 10);

    GoblinHousehold all = new GoblinHousehold();
    all.addGoblin(9);
    for (int i = 0; i < 4; i++) {
      all.addBroom(1);
    }
    for (int room = 0; room < 6; room++) {
      all.hire(0, room, 50, 9);
    }
    best(all, 0, 250);
    String before = Due.state(all);
    best(all, 0, 250);
    Due.same("the state after bestWages", Due.state(all), before);
  }
}
