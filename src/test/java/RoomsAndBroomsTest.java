import java.util.NoSuchElementException;

// Promises 14 to 18.
public final class RoomsAndBroomsTest {
  public static void main(String[] args) {
    rooms();
    brooms();
    Due.end();
  }

  private static void rooms() {
    GoblinHousehold house = new GoblinHousehold();
    for (int wrong : new int[] {-1, 6, Integer.MIN_VALUE, Integer.MAX_VALUE}) {
      Due.refused("dust(" + wrong + ")", IndexOutOfBoundsException.class, () -> house.dust(wrong));
      Due.refused("roomByDust(" + wrong + ")", NoSuchElementException.class, () -> house.roomByDust(wrong));
    }
    for (int i = 0; i < 6; i++) {
      Due.same("dust(" + i + ")", house.dust(i), 20);
      Due.same("roomByDust(" + i + ") of equal rooms", house.roomByDust(i), i);
    }
    house.addGoblin(9);
    house.hire(0, 3, 1, 1);
    house.hire(0, 0, 1, 1);
    house.passNights(1);
    house.addBroom(5);
    house.hire(0, 4, 1, 1);
    house.passNights(1);
    int[] dust = {16, 26, 26, 16, 11, 26};
    int[] order = {1, 2, 5, 0, 3, 4};
    for (int i = 0; i < 6; i++) {
      Due.same("dust(" + i + ")", house.dust(i), dust[i]);
      Due.same("roomByDust(" + i + ")", house.roomByDust(i), order[i]);
    }

    GoblinHousehold near = new GoblinHousehold();
    near.addGoblin(1);
    near.addBroom(2);
    near.hire(0, 0, 1, 1);
    near.passNights(4);
    near.addBroom(1);
    near.banishBroom(0);
    near.hire(0, 1, 1, 1);
    near.passNights(1);
    Due.same("dust(0)", near.dust(0), 23);
    Due.same("dust(1), more by 1", near.dust(1), 24);
    Due.same("roomByDust(4)", near.roomByDust(4), 1);
    Due.same("roomByDust(5)", near.roomByDust(5), 0);
  }

  private static void brooms() {
    GoblinHousehold house = new GoblinHousehold();
    Due.refused("power(0)", IndexOutOfBoundsException.class, () -> house.power(0));
    Due.refused("isBanished(0)", IndexOutOfBoundsException.class, () -> house.isBanished(0));
    house.addBroom(17);
    Due.same("broomCount()", house.broomCount(), 1);
    house.addBroom(2);
    house.banishBroom(0);
    Due.same("broomCount() with a banished one", house.broomCount(), 2);
    Due.same("power(0)", house.power(0), 17);
    Due.same("power(1)", house.power(1), 2);
    Due.same("isBanished(0)", house.isBanished(0), true);
    Due.same("isBanished(1)", house.isBanished(1), false);
    for (int wrong : new int[] {-1, 2, 3, 4, Integer.MIN_VALUE, Integer.MAX_VALUE}) {
      Due.refused("power(" + wrong + ")", IndexOutOfBoundsException.class, () -> house.power(wrong));
      Due.refused("isBanished(" + wrong + ")", IndexOutOfBoundsException.class, () -> house.isBanished(wrong));
    }
  }
}
