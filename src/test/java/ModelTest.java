import java.lang.reflect.InvocationTargetException;
import java.lang.reflect.Method;
import java.util.ArrayList;
import java.util.Arrays;
import java.util.Comparator;
import java.util.List;
import java.util.Random;

// All promises: long runs of calls of the class and of a model of it, written another way. Each
// answer must be the same, and each exception of the very same class.
public final class ModelTest {
  private static final int RUNS = 1500;
  private static final int CALLS = 512;
  private static final List<String> CHANGES = Arrays.asList("addGoblin", "addBroom", "banishBroom", "recallBroom",
      "hire", "cancelContract", "rest", "wake", "lend", "fund", "spend", "passNights");
  private static final String[] OFTEN = {"hire", "hire", "hire", "hire", "passNights", "passNights", "lend", "lend",
      "spend", "nightsUntilDone", "nightsUntilDone", "bestWages", "bestWagesByTable", "debtAfter", "chestAfter",
      "goblinByWealth", "goblinByWealth", "roomByDust", "undo", "rest", "wake", "addGoblin", "addBroom"};
  private static final String[] WORDS = {"goblin ", "broom ", "banish ", "recall ", "hire ", "cancel ", "rest ",
      "wake ", "lend ", "fund ", "spend ", "night ", "night"};

  private final Random random;
  private final GoblinHousehold house = new GoblinHousehold();
  private final Model model = new Model();
  private final List<String> calls = new ArrayList<>();
  private int lastId = 0;

  private ModelTest(int seed) {
    random = new Random(seed);
  }

  public static void main(String[] args) {
    List<Method> face = new ArrayList<>();
    for (Method method : GoblinHousehold.class.getDeclaredMethods()) {
      if (java.lang.reflect.Modifier.isPublic(method.getModifiers())) {
        face.add(method);
      }
    }
    face.sort(Comparator.comparing(Method::getName));
    for (int run = 0; run < RUNS; run++) {
      if (!new ModelTest(run).holds(face)) {
        break;
      }
    }
    Due.end();
  }

  private boolean holds(List<Method> face) {
    while (calls.size() < CALLS) {
      boolean same = random.nextInt(100) < 6 ? holdsForScript(face) : holdsFor(chosen(face));
      if (!same) {
        System.out.println(String.join("\n", calls));
        return false;
      }
    }
    return true;
  }

  private Method chosen(List<Method> face) {
    int kind = random.nextInt(3);
    if (kind == 0) {
      return named(face, OFTEN[random.nextInt(OFTEN.length)]);
    }
    if (kind == 1) {
      return named(face, CHANGES.get(random.nextInt(CHANGES.size())));
    }
    return face.get(random.nextInt(face.size()));
  }

  private static Method named(List<Method> face, String name) {
    for (Method method : face) {
      if (method.getName().equals(name)) {
        return method;
      }
    }
    throw new Error(name);
  }

  private boolean holdsFor(Method method) {
    String name = method.getName();
    int[] given = new int[method.getParameterCount()];
    for (int i = 0; i < given.length; i++) {
      given[i] = argument(name, i);
    }
    return holdsFor(method, given);
  }

  private boolean holdsFor(Method method, int... given) {
    String name = method.getName();
    Object[] boxed = new Object[given.length];
    for (int i = 0; i < given.length; i++) {
      boxed[i] = method.getParameterTypes()[i] == char.class ? (Object) (char) given[i] : (Object) given[i];
    }
    Object got = answer(method, boxed);
    Object due = Due.outcome(() -> CHANGES.contains(name) ? model.change(name, given) : model.ask(name, given));
    calls.add(name + Arrays.toString(given) + " answered " + got);
    if (name.equals("hire") && got instanceof Integer) {
      lastId = (Integer) got;
    }
    Due.same(name + Arrays.toString(given), got, due);
    return got.equals(due);
  }

  private Object answer(Method method, Object[] given) {
    try {
      return method.invoke(house, given);
    } catch (InvocationTargetException e) {
      return e.getCause().getClass();
    } catch (IllegalAccessException e) {
      throw new Error(e);
    }
  }

  private int below(int bound) {
    return random.nextInt(bound);
  }

  private int argument(String name, int position) {
    if (below(60) == 0) {
      int[] far = {Integer.MIN_VALUE, Integer.MAX_VALUE, -1, -5, 1000, 100, 65536, 1 << 30};
      return name.equals("type") ? far[below(far.length)] & 0xFFFF : far[below(far.length)];
    }
    switch (name) {
      case "addGoblin":
        return below(11);
      case "addBroom":
        return below(22);
      case "hire":
        return position == 0 ? below(5) : position == 1 ? below(6) : position == 2 ? 1 + below(51) : 1 + below(21);
      case "cancelContract":
      case "goblinOf":
      case "roomOf":
      case "wage":
      case "effort":
      case "nightsUntilDone":
        return lastId - below(8);
      case "lend":
        return position == 0 ? below(6) : below(3) == 0 ? below(101) : 1 + below(20);
      case "fund":
        return below(4) == 0 ? below(1002) : 1 + below(40);
      case "spend":
        return below(3) == 0 ? below(1002) : 1 + below(100);
      case "passNights":
        return below(3) == 0 ? below(62) : 1 + below(3);
      case "chestAfter":
        return below(62);
      case "debtAfter":
        return position == 0 ? below(6) : below(62);
      case "contractAt":
        return below(9);
      case "outputAt":
        return below(40);
      case "type":
        return below(20) == 0 ? below(140) : 'n';
      default:
        return below(7);
    }
  }

  private boolean holdsForScript(List<Method> face) {
    String script = script();
    boolean same = true;
    for (int i = 0; i < script.length() && same; i++) {
      same = holdsFor(named(face, "type"), script.charAt(i));
    }
    String[] after = {"runScript", "errorPosition", "failedCommand"};
    for (int i = 0; i < after.length && same; i++) {
      same = holdsFor(named(face, after[i]));
    }
    return same;
  }

  private String script() {
    StringBuilder text = new StringBuilder();
    int commands = 1 + below(4);
    for (int i = 0; i < commands; i++) {
      text.append(i == 0 ? "" : ";").append(command());
    }
    if (below(3) == 0) {
      int at = below(text.length());
      String signs = "0123456789 /;ghrn";
      char sign = signs.charAt(below(signs.length()));
      switch (below(4)) {
        case 0:
          text.setLength(at);
          break;
        case 1:
          text.setCharAt(at, sign);
          break;
        case 2:
          text.insert(at, sign);
          break;
        default:
          text.deleteCharAt(at);
      }
    }
    return text.toString();
  }

  private String command() {
    String word = WORDS[below(WORDS.length)];
    switch (word) {
      case "night":
        return word;
      case "night ":
        return word + below(8);
      case "hire ":
        return word + below(4) + " " + below(6) + " " + (1 + below(30)) + "/" + (1 + below(12));
      case "lend ":
        return word + below(4) + " " + (1 + below(20));
      case "broom ":
      case "fund ":
      case "spend ":
        return word + (1 + below(20));
      case "cancel ":
        return word + Math.max(0, Math.min(999, lastId - below(6)));
      default:
        return word + below(4);
    }
  }
}
