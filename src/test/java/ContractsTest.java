import java.util.NoSuchElementException;

// Promises 29 to 35.
public final class ContractsTest {
  private static final Class<?> ELEMENT = NoSuchElementException.class;

  public static void main(String[] args) {
    getters();
    nightsUntilDone();
    nightsUntilDoneAtItsBound();
    Due.end();
  }

  private static void refusedForAll(GoblinHousehold house, int contract) {
    Due.refused("goblinOf(" + contract + ")", ELEMENT, () -> house.goblinOf(contract));
    Due.refused("roomOf(" + contract + ")", ELEMENT, () -> house.roomOf(contract));
    Due.refused("wage(" + contract + ")", ELEMENT, () -> house.wage(contract));
    Due.refused("effort(" + contract + ")", ELEMENT, () -> house.effort(contract));
    Due.refused("nightsUntilDone(" + contract + ")", ELEMENT, () -> house.nightsUntilDone(contract));
  }

  private static void getters() {
    GoblinHousehold house = new GoblinHousehold();
    Due.same("openContracts()", house.openContracts(), 0);
    Due.refused("contractAt(0)", ELEMENT, () -> house.contractAt(0));
    refusedForAll(house, 0);
    house.addGoblin(9);
    house.addGoblin(1);
    house.hire(1, 5, 30, 20);
    house.hire(0, 4, 31, 2);
    house.hire(1, 3, 32, 19);
    house.hire(1, 2, 33, 18);
    house.cancelContract(2);
    house.passNights(1);
    house.hire(0, 1, 34, 17);
    Due.same("openContracts()", house.openContracts(), 3);
    int[] ids = {0, 3, 4};
    int[] goblins = {1, 1, 0};
    int[] rooms = {5, 2, 1};
    int[] wages = {30, 33, 34};
    int[] efforts = {20, 18, 17};
    for (int i = 0; i < 3; i++) {
      Due.same("contractAt(" + i + ")", house.contractAt(i), ids[i]);
      Due.same("goblinOf(" + ids[i] + ")", house.goblinOf(ids[i]), goblins[i]);
      Due.same("roomOf(" + ids[i] + ")", house.roomOf(ids[i]), rooms[i]);
      Due.same("wage(" + ids[i] + ")", house.wage(ids[i]), wages[i]);
      Due.same("effort(" + ids[i] + ")", house.effort(ids[i]), efforts[i]);
    }
    for (int wrong : new int[] {-1, 3, 7, 8, Integer.MIN_VALUE, Integer.MAX_VALUE}) {
      Due.refused("contractAt(" + wrong + ")", ELEMENT, () -> house.contractAt(wrong));
    }
    for (int wrong : new int[] {-1, 1, 2, 5, Integer.MIN_VALUE, Integer.MAX_VALUE}) {
      refusedForAll(house, wrong);
    }
  }

  private static void nightsUntilDone() {
    GoblinHousehold house = new GoblinHousehold();
    house.addGoblin(5);
    house.addGoblin(5);
    house.hire(0, 0, 50, 5);
    house.hire(1, 0, 50, 3);
    house.hire(0, 1, 50, 4);
    house.hire(1, 1, 50, 2);
    house.hire(0, 2, 50, 2);
    house.hire(1, 2, 50, 6);
    house.hire(1, 3, 50, 1);
    int[] due = {1, 1, 2, 1, 3};
    String before = Due.state(house);
    for (int id = 0; id < due.length; id++) {
      Due.same("nightsUntilDone(" + id + ")", house.nightsUntilDone(id), due[id]);
    }
    Due.refused("nightsUntilDone(5)", IllegalStateException.class, () -> house.nightsUntilDone(5));
    Due.refused("nightsUntilDone(6) behind it", IllegalStateException.class, () -> house.nightsUntilDone(6));
    Due.same("the state after predictions", Due.state(house), before);
    house.rest(0);
    Due.refused("nightsUntilDone(0) at rest", IllegalStateException.class, () -> house.nightsUntilDone(0));
    Due.same("nightsUntilDone(1)", house.nightsUntilDone(1), 1);
    house.passNights(2);
    Due.refused("nightsUntilDone(0) before it breaks", IllegalStateException.class, () -> house.nightsUntilDone(0));
    house.wake(0);
    Due.same("nightsUntilDone(2), awake again", house.nightsUntilDone(2), 2);
    house.addBroom(1);
    Due.same("nightsUntilDone(2) with a broom", house.nightsUntilDone(2), 1);
    Due.same("nightsUntilDone(5) with a broom", house.nightsUntilDone(5), 1);
  }

  // More contracts than fit in a few nights cannot stand before one, so 60 nights are reached
  // only by a contract that is never done.
  private static void nightsUntilDoneAtItsBound() {
    GoblinHousehold house = new GoblinHousehold();
    house.addGoblin(1);
    for (int room = 0; room < 6; room++) {
      house.hire(0, room, 1, 1);
    }
    for (int id = 0; id < 6; id++) {
      Due.same("nightsUntilDone(" + id + ")", house.nightsUntilDone(id), id + 1);
    }
    house.cancelContract(0);
    house.hire(0, 0, 1, 2);
    Due.refused("nightsUntilDone(6)", IllegalStateException.class, () -> house.nightsUntilDone(6));
    Due.same("nightsUntilDone(5)", house.nightsUntilDone(5), 5);
  }
}
