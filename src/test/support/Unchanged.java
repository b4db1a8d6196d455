/**
 * Calls that must change nothing, seen in two houses that were made alike, one of them without the call. What is
 * compared is all that later calls can tell: the getters, what can be undone, the ids to come, the snapshot, the
 * script buffer, the output text and the two positions that scripts leave.
 */
final class Unchanged {
  interface Call {
    Object on(GoblinHousehold house);
  }

  private Unchanged() {
  }

  /** A call that is refused after the steps. */
  static void refused(Class<?> due, String steps, String call, Call made) {
    after(steps, call, house -> {
      Due.refused(call + " after \"" + steps + "\"", due, () -> made.on(house));
      return null;
    });
  }

  /** A call that is answered after the steps, and is no change. */
  static void answered(Object due, String steps, String call, Call made) {
    after(steps, call, house -> {
      Due.same(call + " after \"" + steps + "\"", Due.outcome(() -> made.on(house)), due);
      return null;
    });
  }

  private static void after(String steps, String call, Call made) {
    String what = " after \"" + steps + "\" and then " + call;
    GoblinHousehold one = dressed(steps);
    made.on(one);
    Due.same("the past" + what, past(one), past(dressed(steps)));
    GoblinHousehold other = dressed(steps);
    made.on(other);
    Due.same("the future" + what, future(other), future(dressed(steps)));
  }

  /** A house whose snapshot, script buffer, output text and positions are not those of a new one. */
  private static GoblinHousehold dressed(String steps) {
    GoblinHousehold house = House.of(steps);
    house.save();
    Due.run(house, "fund 1;?");
    Due.run(house, "fund 1;fund 0");
    if (house.goblinCount() > 0) {
      house.renderGoblin(house.goblinCount() - 1);
    }
    Due.type(house, "fund 7");
    return house;
  }

  static String past(GoblinHousehold house) {
    StringBuilder text = new StringBuilder(Due.state(house));
    text.append(" output ").append(House.output(house));
    text.append(" error ").append(Due.outcome(house::errorPosition));
    text.append(" failed ").append(Due.outcome(house::failedCommand));
    for (int i = 0; i < 10; i++) {
      text.append(" undo ").append(Due.outcome(house::undo)).append(": ").append(Due.state(house));
    }
    return text.toString();
  }

  static String future(GoblinHousehold house) {
    StringBuilder text = new StringBuilder();
    text.append(" script ").append(Due.outcome(house::runScript)).append(": ").append(Due.state(house));
    text.append(" ids ").append(nextIds(house));
    text.append(" restore ").append(Due.outcome(house::restore)).append(": ").append(Due.state(house));
    text.append(" ids ").append(nextIds(house));
    return text.toString();
  }

  private static String nextIds(GoblinHousehold house) {
    StringBuilder text = new StringBuilder();
    // Makes room for one if as many are open as can be.
    text.append(Due.outcome(() -> house.cancelContract(house.contractAt(0))));
    for (int room = 0; room < 6; room++) {
      int other = room;
      text.append(' ').append(Due.outcome(() -> house.hire(0, other, 1, 1)));
    }
    return text.toString();
  }
}
