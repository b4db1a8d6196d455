// Promises 38 to 48.
public final class TotalsTest {
  public static void main(String[] args) {
    GoblinHousehold house = new GoblinHousehold();
    Due.refused("reliability()", ArithmeticException.class, house::reliability);
    Due.same("meanDust()", house.meanDust(), 20.0);
    Due.same("allCrumbs()", house.allCrumbs(), 100);
    Due.same("allCrumbsByAccounts()", house.allCrumbsByAccounts(), 100);
    Due.same("isConsistent()", house.isConsistent(), true);
    house.addGoblin(9);
    house.addGoblin(2);
    house.fund(50);
    house.spend(20);
    house.lend(1, 30);
    Due.same("chest()", house.chest(), 100);
    Due.same("allCrumbs()", house.allCrumbs(), 130);
    Due.same("allCrumbsByAccounts()", house.allCrumbsByAccounts(), 130);
    house.hire(0, 0, 50, 4);
    house.hire(0, 1, 50, 4);
    house.hire(0, 2, 6, 9);
    house.hire(1, 0, 3, 3);
    house.hire(1, 1, 3, 3);
    house.cancelContract(4);
    Due.refused("reliability() with cancelled ones", ArithmeticException.class, house::reliability);
    house.rest(1);
    house.passNights(2);
    Due.same("doneTotal()", house.doneTotal(), 3);
    Due.same("brokenTotal()", house.brokenTotal(), 0);
    Due.same("unpaidTotal()", house.unpaidTotal(), 6);
    Due.same("interestTotal()", house.interestTotal(), 0);
    Due.same("reliability()", house.reliability(), 1.0f);
    Due.same("meanDust()", house.meanDust(), (16 + 16 + 16 + 3 * 26) / 6.0);
    house.passNights(1);
    Due.same("brokenTotal()", house.brokenTotal(), 1);
    Due.same("reliability()", house.reliability(), 0.75f);
    house.passNights(4);
    Due.same("interestTotal()", house.interestTotal(), 4);
    Due.same("night()", house.night(), 7);
    Due.same("chest()", house.chest(), 0);
    Due.same("allCrumbs()", house.allCrumbs(), 130);
    Due.same("allCrumbsByAccounts()", house.allCrumbsByAccounts(), 130);
    Due.same("isConsistent()", house.isConsistent(), true);
    house.addBroom(20);
    house.hire(0, 5, 1, 1);
    house.passNights(1);
    Due.same("reliability()", house.reliability(), 4.0f / 5.0f);
    Due.same("meanDust(), not a whole number", house.meanDust(), (3 * 34 + 2 * 44 + 14) / 6.0);

    GoblinHousehold broken = new GoblinHousehold();
    broken.addGoblin(1);
    broken.hire(0, 0, 1, 1);
    broken.rest(0);
    broken.passNights(3);
    Due.same("reliability() with broken ones alone", broken.reliability(), 0.0f);
    broken.wake(0);
    broken.hire(0, 0, 1, 1);
    broken.hire(0, 1, 1, 1);
    broken.passNights(2);
    Due.same("reliability() as a float", broken.reliability(), 2.0f / 3.0f);
    Due.end();
  }
}
