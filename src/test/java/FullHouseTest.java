// As many goblins, brooms and contracts as can be: promises 2 to 6, 13, 27, 28, 40, 48 and 50 at
// the ends of their rows.
public final class FullHouseTest {
  public static void main(String[] args) {
    GoblinHousehold house = new GoblinHousehold();
    for (int i = 0; i < 5; i++) {
      house.addGoblin(9);
    }
    for (int i = 0; i < 4; i++) {
      house.addBroom(17 + i);
    }
    house.fund(999);
    for (int room = 0; room < 6; room++) {
      Due.same("hire", house.hire(4, room, 50, 7), room);
    }
    house.hire(3, 5, 1, 1);
    house.hire(0, 5, 1, 1);
    Due.same("isConsistent()", house.isConsistent(), true);
    Due.same("bestWages(4)", house.bestWages(4), 300);
    Due.same("bestWagesByTable(4)", house.bestWagesByTable(4), 300);
    Due.same("allCrumbs()", house.allCrumbs(), 1099);
    Due.same("renderContracts()", Due.text(house, house.renderContracts()),
        "0:4>0@50/7 1:4>1@50/7 2:4>2@50/7 3:4>3@50/7 4:4>4@50/7 5:4>5@50/7 6:3>5@1/1 7:0>5@1/1");
    for (int id = 0; id < 8; id++) {
      Due.same("nightsUntilDone(" + id + ")", house.nightsUntilDone(id), 1);
    }
    Due.same("chestAfter(60)", house.chestAfter(60), 1099 - 302);
    for (int i = 0; i < 5; i++) {
      Due.same("rest(" + i + ")", house.rest(i), i + 1);
    }
    house.passNights(2);
    house.save();
    house.passNights(1);
    Due.same("brokenTotal()", house.brokenTotal(), 8);
    Due.same("openContracts()", house.openContracts(), 0);
    house.restore();
    for (int i = 0; i < 5; i++) {
      house.wake(i);
    }
    Due.same("passNights(1)", house.passNights(1), 8);
    Due.same("purse(4)", house.purse(4), 300);
    Due.same("dust(5)", house.dust(5), 0);
    Due.same("allCrumbs()", house.allCrumbs(), 1099);
    Due.same("isConsistent()", house.isConsistent(), true);
    for (int i = 0; i < 5; i++) {
      Due.same("goblinByWealth", house.goblinByWealth(i), new int[] {4, 0, 3, 1, 2}[i]);
    }
    Due.end();
  }
}
