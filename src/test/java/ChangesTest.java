import java.util.NoSuchElementException;

// Promises 2 to 12.
public final class ChangesTest {
  private static final Class<?> INDEX = IndexOutOfBoundsException.class;
  private static final Class<?> ARGUMENT = IllegalArgumentException.class;
  private static final Class<?> STATE = IllegalStateException.class;
  private static final Class<?> UNSUPPORTED = UnsupportedOperationException.class;
  private static final Class<?> ELEMENT = NoSuchElementException.class;

  public static void main(String[] args) {
    addGoblin();
    addBroom();
    banishAndRecall();
    hire();
    cancel();
    restAndWake();
    lend();
    fund();
    spend();
    Due.end();
  }

  private static void refused(GoblinHousehold house, String call, Class<?> due, Due.Call made) {
    String before = Due.state(house);
    Due.refused(call, due, made);
    Due.same("the state after the refused " + call, Due.state(house), before);
  }

  private static void addGoblin() {
    GoblinHousehold house = new GoblinHousehold();
    for (int wrong : new int[] {0, 10, -1, Integer.MIN_VALUE, Integer.MAX_VALUE}) {
      refused(house, "addGoblin(" + wrong + ")", ARGUMENT, () -> house.addGoblin(wrong));
    }
    int[] strengths = {1, 9, 5, 2, 8};
    for (int i = 0; i < 5; i++) {
      Due.same("addGoblin", house.addGoblin(strengths[i]), i);
    }
    for (int i = 0; i < 5; i++) {
      Due.same("strength", house.strength(i), strengths[i]);
      Due.same("purse", house.purse(i), 0);
      Due.same("debt", house.debt(i), 0);
      Due.same("skippedNights", house.skippedNights(i), 0);
      Due.same("isResting", house.isResting(i), false);
    }
    refused(house, "the sixth addGoblin", STATE, () -> house.addGoblin(3));
    refused(house, "the sixth addGoblin with a wrong strength", ARGUMENT, () -> house.addGoblin(0));
  }

  private static void addBroom() {
    GoblinHousehold house = new GoblinHousehold();
    for (int wrong : new int[] {0, 21, -1, Integer.MIN_VALUE, Integer.MAX_VALUE}) {
      refused(house, "addBroom(" + wrong + ")", ARGUMENT, () -> house.addBroom(wrong));
    }
    int[] powers = {20, 1, 7, 13};
    for (int i = 0; i < 4; i++) {
      Due.same("addBroom", house.addBroom(powers[i]), i);
    }
    for (int i = 0; i < 4; i++) {
      Due.same("power", house.power(i), powers[i]);
      Due.same("isBanished", house.isBanished(i), false);
    }
    refused(house, "the fifth addBroom", STATE, () -> house.addBroom(3));
    refused(house, "the fifth addBroom with a wrong power", ARGUMENT, () -> house.addBroom(21));
  }

  private static void banishAndRecall() {
    GoblinHousehold house = new GoblinHousehold();
    refused(house, "banishBroom(0) without brooms", INDEX, () -> house.banishBroom(0));
    refused(house, "recallBroom(0) without brooms", INDEX, () -> house.recallBroom(0));
    house.addBroom(3);
    house.addBroom(4);
    house.addBroom(5);
    for (int wrong : new int[] {-1, 3, 4, Integer.MIN_VALUE, Integer.MAX_VALUE}) {
      refused(house, "banishBroom(" + wrong + ")", INDEX, () -> house.banishBroom(wrong));
      refused(house, "recallBroom(" + wrong + ")", INDEX, () -> house.recallBroom(wrong));
    }
    refused(house, "recallBroom(1) in use", STATE, () -> house.recallBroom(1));
    Due.same("banishBroom(1)", house.banishBroom(1), 2);
    Due.same("isBanished(0)", house.isBanished(0), false);
    Due.same("isBanished(1)", house.isBanished(1), true);
    refused(house, "banishBroom(1) again", STATE, () -> house.banishBroom(1));
    Due.same("banishBroom(2)", house.banishBroom(2), 1);
    Due.same("banishBroom(0)", house.banishBroom(0), 0);
    Due.same("recallBroom(2)", house.recallBroom(2), 1);
    Due.same("isBanished(2)", house.isBanished(2), false);
    refused(house, "recallBroom(2) again", STATE, () -> house.recallBroom(2));
    Due.same("recallBroom(1)", house.recallBroom(1), 2);
    Due.same("addBroom with a banished one", house.addBroom(6), 3);
    Due.same("broomCount()", house.broomCount(), 4);
  }

  private static void hire() {
    GoblinHousehold house = new GoblinHousehold();
    refused(house, "hire without goblins", INDEX, () -> house.hire(0, 0, 1, 1));
    house.addGoblin(1);
    house.addGoblin(1);
    for (int wrong : new int[] {-1, 2, Integer.MIN_VALUE, Integer.MAX_VALUE}) {
      refused(house, "hire goblin " + wrong, INDEX, () -> house.hire(wrong, 0, 0, 0));
    }
    for (int wrong : new int[] {-1, 6, Integer.MIN_VALUE, Integer.MAX_VALUE}) {
      refused(house, "hire room " + wrong, INDEX, () -> house.hire(0, wrong, 0, 0));
    }
    for (int wrong : new int[] {-1, 0, 51, Integer.MIN_VALUE, Integer.MAX_VALUE}) {
      refused(house, "hire wage " + wrong, ARGUMENT, () -> house.hire(0, 0, wrong, 1));
    }
    for (int wrong : new int[] {-1, 0, 21, Integer.MIN_VALUE, Integer.MAX_VALUE}) {
      refused(house, "hire effort " + wrong, ARGUMENT, () -> house.hire(0, 0, 1, wrong));
    }
    Due.same("hire", house.hire(0, 0, 1, 1), 0);
    Due.same("hire", house.hire(1, 0, 50, 20), 1);
    refused(house, "hire for the same room", UNSUPPORTED, () -> house.hire(0, 0, 2, 2));
    refused(house, "hire for the same room with a wrong wage", ARGUMENT, () -> house.hire(0, 0, 51, 2));
    Due.same("hire after a refused one", house.hire(0, 5, 50, 1), 2);
    for (int room = 1; room <= 5; room++) {
      Due.same("hire", house.hire(1, room, 1, 20), room + 2);
    }
    refused(house, "the ninth hire", STATE, () -> house.hire(0, 4, 1, 1));
    refused(house, "the ninth hire for the same room", STATE, () -> house.hire(0, 5, 1, 1));
    refused(house, "the ninth hire with a wrong effort", ARGUMENT, () -> house.hire(0, 4, 1, 21));
    refused(house, "the ninth hire with a wrong room", INDEX, () -> house.hire(0, 6, 1, 1));
    house.cancelContract(0);
    Due.same("hire with the room free again", house.hire(0, 0, 5, 5), 8);
    Due.same("renderContracts()", Due.text(house, house.renderContracts()),
        "1:1>0@50/20 2:0>5@50/1 3:1>1@1/20 4:1>2@1/20 5:1>3@1/20 6:1>4@1/20 7:1>5@1/20 8:0>0@5/5");
  }

  private static void cancel() {
    GoblinHousehold house = new GoblinHousehold();
    refused(house, "cancelContract(0) without contracts", ELEMENT, () -> house.cancelContract(0));
    house.addGoblin(1);
    house.lend(0, 10);
    house.hire(0, 0, 49, 20);
    house.hire(0, 1, 9, 20);
    house.hire(0, 2, 50, 20);
    for (int wrong : new int[] {-1, 3, Integer.MIN_VALUE, Integer.MAX_VALUE}) {
      refused(house, "cancelContract(" + wrong + ")", ELEMENT, () -> house.cancelContract(wrong));
    }
    Due.same("cancelContract(0)", house.cancelContract(0), 4);
    Due.same("chest()", house.chest(), 86);
    Due.same("purse(0)", house.purse(0), 14);
    Due.same("debt(0), which a cancelled contract does not pay off", house.debt(0), 10);
    refused(house, "cancelContract(0) again", ELEMENT, () -> house.cancelContract(0));
    Due.same("cancelContract(1)", house.cancelContract(1), 0);
    house.spend(84);
    Due.same("cancelContract(2) with 2 crumbs in the chest", house.cancelContract(2), 2);
    Due.same("chest()", house.chest(), 0);
    Due.same("purse(0)", house.purse(0), 16);
    Due.same("unpaidTotal()", house.unpaidTotal(), 0);
    Due.same("doneTotal()", house.doneTotal(), 0);
    Due.same("brokenTotal()", house.brokenTotal(), 0);
    Due.same("openContracts()", house.openContracts(), 0);
    Due.same("the id after cancelled ones", house.hire(0, 0, 1, 1), 3);
    house.fund(99);
    house.hire(0, 1, 50, 1);
    house.hire(0, 2, 10, 1);
    Due.same("cancelContract(4)", house.cancelContract(4), 5);
    Due.same("cancelContract(5)", house.cancelContract(5), 1);
    Due.same("chest()", house.chest(), 93);
    Due.same("purse(0)", house.purse(0), 22);
  }

  private static void restAndWake() {
    GoblinHousehold house = new GoblinHousehold();
    refused(house, "rest(0) without goblins", INDEX, () -> house.rest(0));
    refused(house, "wake(0) without goblins", INDEX, () -> house.wake(0));
    house.addGoblin(1);
    house.addGoblin(2);
    house.addGoblin(3);
    for (int wrong : new int[] {-1, 3, 5, Integer.MIN_VALUE, Integer.MAX_VALUE}) {
      refused(house, "rest(" + wrong + ")", INDEX, () -> house.rest(wrong));
      refused(house, "wake(" + wrong + ")", INDEX, () -> house.wake(wrong));
    }
    refused(house, "wake(0) awake", STATE, () -> house.wake(0));
    Due.same("rest(1)", house.rest(1), 1);
    Due.same("isResting(1)", house.isResting(1), true);
    Due.same("isResting(0)", house.isResting(0), false);
    refused(house, "rest(1) again", STATE, () -> house.rest(1));
    Due.same("rest(0)", house.rest(0), 2);
    house.passNights(2);
    Due.same("rest(2)", house.rest(2), 3);
    house.passNights(3);
    Due.same("wake(1)", house.wake(1), 5);
    Due.same("isResting(1)", house.isResting(1), false);
    Due.same("skippedNights(1) until the next night", house.skippedNights(1), 5);
    Due.same("wake(2)", house.wake(2), 3);
    refused(house, "wake(2) again", STATE, () -> house.wake(2));
    Due.same("rest(1) again", house.rest(1), 2);
    house.passNights(1);
    Due.same("skippedNights(1), which no night made 0", house.skippedNights(1), 6);
    Due.same("skippedNights(2)", house.skippedNights(2), 0);
    Due.same("skippedNights(0)", house.skippedNights(0), 6);
  }

  private static void lend() {
    GoblinHousehold house = new GoblinHousehold();
    refused(house, "lend(0, 1) without goblins", INDEX, () -> house.lend(0, 1));
    house.addGoblin(1);
    house.addGoblin(1);
    for (int wrong : new int[] {-1, 2, Integer.MIN_VALUE, Integer.MAX_VALUE}) {
      refused(house, "lend to goblin " + wrong, INDEX, () -> house.lend(wrong, 0));
    }
    for (int wrong : new int[] {-1, 0, 100, Integer.MIN_VALUE, Integer.MAX_VALUE}) {
      refused(house, "lend crumbs " + wrong, ARGUMENT, () -> house.lend(1, wrong));
    }
    Due.same("lend(1, 99)", house.lend(1, 99), 99);
    Due.same("purse(1)", house.purse(1), 99);
    Due.same("debt(1)", house.debt(1), 99);
    Due.same("debt(0)", house.debt(0), 0);
    Due.same("chest()", house.chest(), 1);
    refused(house, "lend more than is in the chest", UNSUPPORTED, () -> house.lend(0, 2));
    Due.same("lend all that is in the chest", house.lend(0, 1), 1);
    refused(house, "lend from an empty chest", UNSUPPORTED, () -> house.lend(0, 1));
    house.fund(999);
    Due.same("lend(1, 99)", house.lend(1, 99), 198);
    refused(house, "lend(1, 3) beyond 200", UNSUPPORTED, () -> house.lend(1, 3));
    refused(house, "lend(1, 100) beyond 200", ARGUMENT, () -> house.lend(1, 100));
    Due.same("lend(1, 2) up to 200", house.lend(1, 2), 200);
    refused(house, "lend(1, 1) at 200", UNSUPPORTED, () -> house.lend(1, 1));
    Due.same("chest()", house.chest(), 898);
    Due.same("interestTotal()", house.interestTotal(), 0);
  }

  private static void fund() {
    GoblinHousehold house = new GoblinHousehold();
    for (int wrong : new int[] {-1, 0, 1000, Integer.MIN_VALUE, Integer.MAX_VALUE}) {
      refused(house, "fund(" + wrong + ")", ARGUMENT, () -> house.fund(wrong));
    }
    Due.same("fund(1)", house.fund(1), 101);
    Due.same("fund(999)", house.fund(999), 1100);
    Due.same("chest()", house.chest(), 1100);
    Due.same("allCrumbsByAccounts()", house.allCrumbsByAccounts(), 1100);
  }

  private static void spend() {
    GoblinHousehold house = new GoblinHousehold();
    for (int wrong : new int[] {-1, 0, 1000, Integer.MIN_VALUE, Integer.MAX_VALUE}) {
      refused(house, "spend(" + wrong + ")", ARGUMENT, () -> house.spend(wrong));
    }
    refused(house, "spend(101)", UNSUPPORTED, () -> house.spend(101));
    Due.same("spend(1)", house.spend(1), 99);
    refused(house, "spend(100)", UNSUPPORTED, () -> house.spend(100));
    Due.same("spend(99)", house.spend(99), 0);
    refused(house, "spend(1) from an empty chest", UNSUPPORTED, () -> house.spend(1));
    house.fund(999);
    Due.same("spend(999)", house.spend(999), 0);
    Due.same("allCrumbsByAccounts()", house.allCrumbsByAccounts(), 0);
  }
}
