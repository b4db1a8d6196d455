import java.util.ArrayList;
import java.util.Arrays;
import java.util.List;
import java.util.function.Function;

/** Houses for tests, made by steps that read like the commands of a script. */
final class House {
  static final String FIVE_GOBLINS = "goblin 1;goblin 2;goblin 3;goblin 4;goblin 5;";

  private House() {
  }

  /** A new house after the steps, each made by a call of its own. */
  static GoblinHousehold of(String steps) {
    return go(new GoblinHousehold(), steps);
  }

  static GoblinHousehold go(GoblinHousehold house, String steps) {
    for (String step : steps.split(";")) {
      if (!step.isBlank()) {
        step(house, step.trim());
      }
    }
    return house;
  }

  private static void step(GoblinHousehold house, String step) {
    String[] words = step.split("[ /]");
    int[] n = Arrays.stream(words).skip(1).mapToInt(Integer::parseInt).toArray();
    switch (words[0]) {
      case "goblin" -> house.addGoblin(n[0]);
      case "broom" -> house.addBroom(n[0]);
      case "banish" -> house.banishBroom(n[0]);
      case "recall" -> house.recallBroom(n[0]);
      case "hire" -> house.hire(n[0], n[1], n[2], n[3]);
      case "cancel" -> house.cancelContract(n[0]);
      case "rest" -> house.rest(n[0]);
      case "wake" -> house.wake(n[0]);
      case "lend" -> house.lend(n[0], n[1]);
      case "fund" -> house.fund(n[0]);
      case "spend" -> house.spend(n[0]);
      case "night" -> house.passNights(n.length == 0 ? 1 : n[0]);
      case "undo" -> house.undo();
      case "save" -> house.save();
      case "restore" -> house.restore();
      default -> throw new IllegalArgumentException("no such step: " + step);
    }
  }

  /**
   * Numbers outside the bounds: the nearest, the farthest, and some that fall between the bounds if all but their
   * lowest 8 or 16 bits are lost.
   */
  static int[] outside(int least, int most) {
    int[] all = {least - 1, most + 1, least - 2, most + 2, -1, 256 + least, 65536 + least, 65536 + most, least - 65536,
        Integer.MIN_VALUE, Integer.MIN_VALUE + least, Integer.MAX_VALUE};
    return Arrays.stream(all).filter(n -> n < least || n > most).distinct().toArray();
  }

  /** The answers for 0, 1, 2 and so on up to the one before the first that is refused, with blanks between. */
  static String row(Function<Integer, Object> call) {
    return String.join(" ", answers(call));
  }

  static String output(GoblinHousehold house) {
    return String.join("", answers(house::outputAt));
  }

  private static List<String> answers(Function<Integer, Object> call) {
    List<String> answers = new ArrayList<>();
    for (int i = 0; i < 1000; i++) {
      int index = i;
      Object answer = Due.outcome(() -> call.apply(index));
      if (answer instanceof Class) {
        break;
      }
      answers.add(answer.toString());
    }
    return answers;
  }
}
