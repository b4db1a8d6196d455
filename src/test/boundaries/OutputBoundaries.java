/** Promises 49 to 51. */
final class OutputBoundaries {
  private static final Class<?> INDEX = IndexOutOfBoundsException.class;

  private static void goblinText(String steps, int goblin, String due) {
    GoblinHousehold house = House.of(steps);
    Due.same("renderGoblin(" + goblin + ") after \"" + steps + "\"", house.renderGoblin(goblin), due.length());
    Due.same("the output text after \"" + steps + "\"", House.output(house), due);
  }

  private static void contractsText(String steps, String due) {
    GoblinHousehold house = House.of(steps);
    Due.same("renderContracts() after \"" + steps + "\"", house.renderContracts(), due.length());
    Due.same("the output text after \"" + steps + "\"", House.output(house), due);
  }

  @Sentence(in = "Promise 49", says = "Replaces the output text by a description of a goblin: its index, \"s\" and its "
      + "strength, \"p\" and its purse, \"d\" and its debt if it is not 0, and \"z\" if it rests, as in \"1s5p40d12z\".")
  static void goblin() {
    goblinText("goblin 1", 0, "0s1p0");
    goblinText("goblin 9;rest 0", 0, "0s9p0z");
    goblinText("goblin 9;rest 0;wake 0", 0, "0s9p0");
    goblinText("goblin 9;lend 0 1", 0, "0s9p1d1");
    goblinText("goblin 9;lend 0 1;rest 0", 0, "0s9p1d1z");
    goblinText("goblin 9;lend 0 1;hire 0 0 1/1;night", 0, "0s9p1");
    goblinText("goblin 9;lend 0 2;hire 0 0 1/1;night", 0, "0s9p2d1");
    goblinText("goblin 9;goblin 5;hire 1 0 28/1;night;lend 1 12;rest 1", 1, "1s5p40d12z");
    goblinText(House.FIVE_GOBLINS, 4, "4s5p0");
    goblinText("fund 999;goblin 1;lend 0 99;lend 0 99;lend 0 2;night 60;night 60", 0, "0s1p200d999");
    GoblinHousehold house = House.of("goblin 9;goblin 1;lend 0 99;rest 0");
    Due.same("renderGoblin(0)", house.renderGoblin(0), 10);
    Due.same("renderGoblin(1)", house.renderGoblin(1), 5);
    Due.same("the output text, replaced by a shorter one", House.output(house), "1s1p0");
  }

  @Sentence(in = "Promise 49", says = "Throws IndexOutOfBoundsException if there is no such goblin")
  static void nobody() {
    String[] starts = {"", "goblin 1;goblin 2;undo", House.FIVE_GOBLINS};
    int[] counts = {0, 1, 5};
    for (int i = 0; i < starts.length; i++) {
      for (int goblin : House.outside(0, counts[i] - 1)) {
        Unchanged.refused(INDEX, starts[i], "renderGoblin(" + goblin + ")", house -> house.renderGoblin(goblin));
      }
    }
    Due.same("renderGoblin(0)", House.of(House.FIVE_GOBLINS).renderGoblin(0), 5);
    Due.same("renderGoblin(4)", House.of(House.FIVE_GOBLINS).renderGoblin(4), 5);
  }

  @Sentence(in = "Promise 50", says = "Replaces the output text by the open contracts in the order of ids: for each the id, "
      + "\":\", its goblin, \">\", its room, \"@\", its wage, \"/\" and its effort, with a blank between two contracts, as "
      + "in \"0:1>3@20/5 4:0>2@9/12\".")
  static void contracts() {
    contractsText("goblin 1;hire 0 0 1/1", "0:0>0@1/1");
    contractsText("goblin 1;hire 0 5 50/20", "0:0>5@50/20");
    contractsText("goblin 1;goblin 9;hire 1 3 20/5;hire 0 3 1/1;hire 0 4 1/1;hire 0 5 1/1;hire 0 2 9/12;cancel 1;cancel 2;"
        + "cancel 3", "0:1>3@20/5 4:0>2@9/12");
    contractsText(House.FIVE_GOBLINS + "hire 4 0 1/1;hire 3 0 2/2;hire 2 0 3/3;hire 1 0 4/4;hire 0 0 5/5;hire 0 1 6/6;hire 1 2 7/7;"
        + "hire 4 5 50/20", "0:4>0@1/1 1:3>0@2/2 2:2>0@3/3 3:1>0@4/4 4:0>0@5/5 5:0>1@6/6 6:1>2@7/7 7:4>5@50/20");
    GoblinHousehold late = House.of("goblin 1");
    for (int id = 0; id < 101; id++) {
      House.go(late, "hire 0 0 1/1;cancel " + id);
    }
    Due.same("renderContracts()", House.go(late, "hire 0 1 2/3").renderContracts(), 11);
    Due.same("the output text with a long id", House.output(late), "101:0>1@2/3");
  }

  @Sentence(in = "Promise 50", says = "The text is empty without open contracts.")
  static void noContracts() {
    contractsText("", "");
    contractsText("goblin 1;hire 0 0 1/1;night", "");
    contractsText("goblin 1;hire 0 0 1/1;cancel 0", "");
    contractsText("goblin 1;hire 0 0 1/1;rest 0;night 3", "");
    contractsText("goblin 1;hire 0 0 1/1;undo", "");
    GoblinHousehold house = House.of("goblin 1");
    house.renderGoblin(0);
    Due.same("renderContracts()", house.renderContracts(), 0);
    Due.same("the output text where there was one", House.output(house), "");
    Due.refused("outputAt(0)", INDEX, () -> house.outputAt(0));
  }

  @Sentence(in = "Promise 51", says = "Returns a character of the output text, which is empty initially.")
  static void emptyInitially() {
    GoblinHousehold house = new GoblinHousehold();
    Due.refused("outputAt(0) of a new house", INDEX, () -> house.outputAt(0));
    House.go(house, "goblin 3;hire 0 0 1/1;night");
    Due.refused("outputAt(0) before a text is made", INDEX, () -> house.outputAt(0));
    house.renderGoblin(0);
    Due.same("outputAt(0)", house.outputAt(0), '0');
    Due.same("outputAt(4)", house.outputAt(4), '1');
  }

  @Sentence(in = "Promise 51", says = "Throws IndexOutOfBoundsException if there is no such index")
  static void noIndex() {
    // The house was dressed with a text of 5 characters.
    for (int index : House.outside(0, 4)) {
      Unchanged.refused(INDEX, "goblin 3", "outputAt(" + index + ")", house -> house.outputAt(index));
    }
    for (int index : new int[] {0, -1, Integer.MIN_VALUE, Integer.MAX_VALUE}) {
      Unchanged.refused(INDEX, "", "outputAt(" + index + ")", house -> house.outputAt(index));
    }
    GoblinHousehold house = House.of("goblin 9;goblin 1;lend 0 99;rest 0");
    house.renderGoblin(0);
    Due.same("outputAt(9), the last", house.outputAt(9), 'z');
    Due.refused("outputAt(10)", INDEX, () -> house.outputAt(10));
    house.renderGoblin(1);
    Due.same("outputAt(4), the last", house.outputAt(4), '0');
    Due.refused("outputAt(5) of a shorter text", INDEX, () -> house.outputAt(5));
    Due.refused("outputAt(9) of a shorter text", INDEX, () -> house.outputAt(9));
  }
}
