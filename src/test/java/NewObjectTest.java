// Promise 1.
public final class NewObjectTest {
  public static void main(String[] args) {
    GoblinHousehold house = new GoblinHousehold();
    Due.same("night()", house.night(), 0);
    Due.same("chest()", house.chest(), 100);
    Due.same("goblinCount()", house.goblinCount(), 0);
    Due.same("broomCount()", house.broomCount(), 0);
    Due.same("openContracts()", house.openContracts(), 0);
    Due.same("state", Due.state(house),
        "night 0 chest 100 accounts 100 done 0 broken 0 unpaid 0 interest 0 dust 20 20 20 20 20 20");
    Due.refused("undo()", java.util.NoSuchElementException.class, house::undo);
    Due.refused("restore()", IllegalStateException.class, house::restore);
    Due.refused("errorPosition()", java.util.NoSuchElementException.class, house::errorPosition);
    Due.refused("failedCommand()", java.util.NoSuchElementException.class, house::failedCommand);
    Due.refused("outputAt(0)", IndexOutOfBoundsException.class, () -> house.outputAt(0));
    Due.same("type of the first character", house.type('n'), 1);

    GoblinHousehold other = new GoblinHousehold();
    house.fund(5);
    house.addGoblin(3);
    Due.same("chest() of another object", other.chest(), 100);
    Due.same("goblinCount() of another object", other.goblinCount(), 0);
    Due.end();
  }
}
