// Promises 49 to 51.
public final class OutputTest {
  public static void main(String[] args) {
    GoblinHousehold house = new GoblinHousehold();
    Due.refused("renderGoblin(0)", IndexOutOfBoundsException.class, () -> house.renderGoblin(0));
    Due.same("renderContracts() without contracts", house.renderContracts(), 0);
    Due.refused("outputAt(0)", IndexOutOfBoundsException.class, () -> house.outputAt(0));
    house.addGoblin(7);
    house.addGoblin(5);
    Due.same("renderGoblin(0)", Due.text(house, house.renderGoblin(0)), "0s7p0");
    house.lend(1, 40);
    Due.same("renderGoblin(1)", Due.text(house, house.renderGoblin(1)), "1s5p40d40");
    house.rest(1);
    Due.same("renderGoblin(1)", Due.text(house, house.renderGoblin(1)), "1s5p40d40z");
    house.rest(0);
    Due.same("renderGoblin(0)", Due.text(house, house.renderGoblin(0)), "0s7p0z");
    for (int wrong : new int[] {-1, 2, 5, Integer.MIN_VALUE, Integer.MAX_VALUE}) {
      Due.refused("renderGoblin(" + wrong + ")", IndexOutOfBoundsException.class, () -> house.renderGoblin(wrong));
      Due.same("the text after it", Due.text(house, 6), "0s7p0z");
    }
    for (int wrong : new int[] {-1, 6, Integer.MIN_VALUE, Integer.MAX_VALUE}) {
      Due.refused("outputAt(" + wrong + ")", IndexOutOfBoundsException.class, () -> house.outputAt(wrong));
    }
    Due.same("outputAt(5)", house.outputAt(5), 'z');

    house.hire(1, 3, 20, 5);
    Due.same("renderContracts()", Due.text(house, house.renderContracts()), "0:1>3@20/5");
    for (int i = 1; i <= 3; i++) {
      house.cancelContract(house.hire(0, i, 1, 1));
    }
    house.hire(0, 2, 9, 12);
    Due.same("renderContracts()", Due.text(house, house.renderContracts()), "0:1>3@20/5 4:0>2@9/12");
    house.undo();
    Due.same("undo leaves the output text", Due.text(house, 21), "0:1>3@20/5 4:0>2@9/12");
    house.save();
    house.renderGoblin(0);
    house.restore();
    Due.same("restore leaves the output text", Due.text(house, 6), "0s7p0z");
    Due.same("renderContracts()", Due.text(house, house.renderContracts()), "0:1>3@20/5");
    house.cancelContract(0);
    Due.same("renderContracts() without contracts", Due.text(house, house.renderContracts()), "");
    Due.end();
  }
}
