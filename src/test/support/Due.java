/** Counts and prints the calls whose answer is not the one that is due. */
final class Due {
  private static int wrong = 0;

  private Due() {
  }

  /** A call whose answer is put into an object. */
  interface Call {
    Object answer();
  }

  static void same(String call, Object got, Object due) {
    if (!got.equals(due)) {
      wrong++;
      System.out.println(call + " answered " + got + ", due is " + due);
    }
  }

  /** The answer of a call, or the very class of what it throws: a class below it is wrong too. */
  static Object outcome(Call call) {
    try {
      return call.answer();
    } catch (RuntimeException | Error e) {
      return e.getClass();
    }
  }

  static void refused(String call, Class<?> due, Call made) {
    same(call, outcome(made), due);
  }

  static int wrongSoFar() {
    return wrong;
  }

  static void end() {
    if (wrong != 0) {
      System.out.println(wrong + " answers are not as due");
      System.exit(1);
    }
  }

  static void type(GoblinHousehold house, String script) {
    for (int i = 0; i < script.length(); i++) {
      house.type(script.charAt(i));
    }
  }

  static Object run(GoblinHousehold house, String script) {
    type(house, script);
    return outcome(house::runScript);
  }

  static String text(GoblinHousehold house, int length) {
    StringBuilder text = new StringBuilder();
    for (int i = 0; i < length; i++) {
      text.append(house.outputAt(i));
    }
    same("outputAt behind the text", outcome(() -> house.outputAt(length)), IndexOutOfBoundsException.class);
    return text.toString();
  }

  /** All that the getters tell of the state that undo and the snapshot cover, but for the next id. */
  static String state(GoblinHousehold house) {
    StringBuilder text = new StringBuilder();
    text.append("night ").append(house.night()).append(" chest ").append(house.chest());
    text.append(" accounts ").append(house.allCrumbsByAccounts()).append(" done ").append(house.doneTotal());
    text.append(" broken ").append(house.brokenTotal()).append(" unpaid ").append(house.unpaidTotal());
    text.append(" interest ").append(house.interestTotal()).append(" dust");
    for (int room = 0; room < 6; room++) {
      text.append(' ').append(house.dust(room));
    }
    for (int broom = 0; broom < house.broomCount(); broom++) {
      text.append(" broom ").append(house.power(broom)).append(house.isBanished(broom));
    }
    for (int goblin = 0; goblin < house.goblinCount(); goblin++) {
      text.append(" goblin ").append(house.strength(goblin)).append('p').append(house.purse(goblin));
      text.append('d').append(house.debt(goblin)).append('s').append(house.skippedNights(goblin));
      text.append(house.isResting(goblin));
    }
    for (int i = 0; i < house.openContracts(); i++) {
      int id = house.contractAt(i);
      text.append(" contract ").append(id).append(':').append(house.goblinOf(id)).append('>').append(house.roomOf(id));
      text.append('@').append(house.wage(id)).append('/').append(house.effort(id));
    }
    same("isConsistent()", house.isConsistent(), true);
    return text.toString();
  }
}
