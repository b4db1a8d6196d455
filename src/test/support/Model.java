import java.util.ArrayList;
import java.util.Arrays;
import java.util.Comparator;
import java.util.List;
import java.util.NoSuchElementException;
import java.util.function.Supplier;
import java.util.regex.Matcher;
import java.util.regex.Pattern;

/**
 * The household a second time, written without regard to what it costs: a state is copied whole
 * before each change, and scripts are read by a regular expression.
 */
final class Model {
  private static final String NUMBER = "([0-9]{1,3})";
  private static final String DIGIT = "([0-9])";
  private static final String[] FORMS = {"goblin " + DIGIT, "broom " + NUMBER, "banish " + DIGIT, "recall " + DIGIT,
      "hire " + DIGIT + " " + DIGIT + " " + NUMBER + "/" + NUMBER, "cancel " + NUMBER, "rest " + DIGIT,
      "wake " + DIGIT, "lend " + DIGIT + " " + NUMBER, "fund " + NUMBER, "spend " + NUMBER, "night(?: " + NUMBER + ")?"};
  private static final Pattern SCRIPT =
      Pattern.compile("(?:" + String.join("|", FORMS) + ")(?:;(?:" + String.join("|", FORMS) + "))*");

  static final class Goblin {
    int strength;
    int purse;
    int debt;
    int skipped;
    boolean resting;
  }

  static final class Broom {
    int power;
    boolean banished;
  }

  static final class Contract {
    int id;
    int goblin;
    int room;
    int wage;
    int effort;
  }

  static final class State {
    int[] dust = {20, 20, 20, 20, 20, 20};
    List<Goblin> goblins = new ArrayList<>();
    List<Broom> brooms = new ArrayList<>();
    List<Contract> contracts = new ArrayList<>();
    int nextId;
    int night;
    int chest = 100;
    int accounts = 100;
    int done;
    int broken;
    int unpaid;
    int interest;

    State copy() {
      State copy = new State();
      copy.dust = dust.clone();
      for (Goblin goblin : goblins) {
        Goblin other = new Goblin();
        other.strength = goblin.strength;
        other.purse = goblin.purse;
        other.debt = goblin.debt;
        other.skipped = goblin.skipped;
        other.resting = goblin.resting;
        copy.goblins.add(other);
      }
      for (Broom broom : brooms) {
        Broom other = new Broom();
        other.power = broom.power;
        other.banished = broom.banished;
        copy.brooms.add(other);
      }
      copy.contracts.addAll(contracts);
      copy.nextId = nextId;
      copy.night = night;
      copy.chest = chest;
      copy.accounts = accounts;
      copy.done = done;
      copy.broken = broken;
      copy.unpaid = unpaid;
      copy.interest = interest;
      return copy;
    }
  }

  private State now = new State();
  private State saved;
  private final List<State> past = new ArrayList<>();
  private String output = "";
  private String buffer = "";
  private Integer errorPosition;
  private Integer failedCommand;

  private static void need(boolean holds, RuntimeException otherwise) {
    if (!holds) {
      throw otherwise;
    }
  }

  private static void needIndex(boolean holds) {
    need(holds, new IndexOutOfBoundsException());
  }

  private static void needArgument(boolean holds) {
    need(holds, new IllegalArgumentException());
  }

  private static void needState(boolean holds) {
    need(holds, new IllegalStateException());
  }

  private static void needSupport(boolean holds) {
    need(holds, new UnsupportedOperationException());
  }

  private static void needElement(boolean holds) {
    need(holds, new NoSuchElementException());
  }

  private static boolean in(int number, int least, int most) {
    return least <= number && number <= most;
  }

  private Goblin goblin(int index) {
    needIndex(in(index, 0, now.goblins.size() - 1));
    return now.goblins.get(index);
  }

  private Broom broom(int index) {
    needIndex(in(index, 0, now.brooms.size() - 1));
    return now.brooms.get(index);
  }

  private Contract contract(int id) {
    for (Contract contract : now.contracts) {
      if (contract.id == id) {
        return contract;
      }
    }
    throw new NoSuchElementException();
  }

  private int inUse() {
    return (int) now.brooms.stream().filter(b -> !b.banished).count();
  }

  private int energy(Goblin goblin) {
    return goblin.strength * (inUse() + 1);
  }

  /** A change by its name in the face; its state before is kept if it returns normally. */
  int change(String name, int... a) {
    State before = now.copy();
    int answer = perform(name, a);
    past.add(before);
    if (past.size() > 8) {
      past.remove(0);
    }
    return answer;
  }

  private int perform(String name, int... a) {
    switch (name) {
      case "addGoblin":
        needArgument(in(a[0], 1, 9));
        needState(now.goblins.size() < 5);
        now.goblins.add(new Goblin());
        now.goblins.get(now.goblins.size() - 1).strength = a[0];
        return now.goblins.size() - 1;
      case "addBroom":
        needArgument(in(a[0], 1, 20));
        needState(now.brooms.size() < 4);
        now.brooms.add(new Broom());
        now.brooms.get(now.brooms.size() - 1).power = a[0];
        return now.brooms.size() - 1;
      case "banishBroom":
        needState(!broom(a[0]).banished);
        broom(a[0]).banished = true;
        return inUse();
      case "recallBroom":
        needState(broom(a[0]).banished);
        broom(a[0]).banished = false;
        return inUse();
      case "hire":
        return hire(a);
      case "cancelContract":
        Contract contract = contract(a[0]);
        int fee = Math.min(contract.wage / 10, now.chest);
        now.contracts.remove(contract);
        now.chest -= fee;
        goblin(contract.goblin).purse += fee;
        return fee;
      case "rest":
        needState(!goblin(a[0]).resting);
        goblin(a[0]).resting = true;
        return (int) now.goblins.stream().filter(g -> g.resting).count();
      case "wake":
        needState(goblin(a[0]).resting);
        goblin(a[0]).resting = false;
        return goblin(a[0]).skipped;
      case "lend":
        Goblin goblin = goblin(a[0]);
        needArgument(in(a[1], 1, 99));
        needSupport(now.chest >= a[1] && goblin.debt + a[1] <= 200);
        now.chest -= a[1];
        goblin.purse += a[1];
        goblin.debt += a[1];
        return goblin.debt;
      case "fund":
        needArgument(in(a[0], 1, 999));
        now.chest += a[0];
        now.accounts += a[0];
        return now.chest;
      case "spend":
        needArgument(in(a[0], 1, 999));
        needSupport(now.chest >= a[0]);
        now.chest -= a[0];
        now.accounts -= a[0];
        return now.chest;
      case "passNights":
        needArgument(in(a[0], 1, 60));
        int done = now.done;
        nights(a[0]);
        return now.done - done;
      default:
        throw new Error(name);
    }
  }

  private int hire(int... a) {
    goblin(a[0]);
    needIndex(in(a[1], 0, 5));
    needArgument(in(a[2], 1, 50) && in(a[3], 1, 20));
    needState(now.contracts.size() < 8);
    for (Contract other : now.contracts) {
      needSupport(other.goblin != a[0] || other.room != a[1]);
    }
    Contract contract = new Contract();
    contract.id = now.nextId++;
    contract.goblin = a[0];
    contract.room = a[1];
    contract.wage = a[2];
    contract.effort = a[3];
    now.contracts.add(contract);
    return contract.id;
  }

  private void nights(int number) {
    for (int i = 0; i < number; i++) {
      oneNight();
    }
  }

  private void oneNight() {
    now.night++;
    for (int room = 0; room < 6; room++) {
      now.dust[room] = Math.min(99, now.dust[room] + 3);
    }
    for (int index = 0; index < now.goblins.size(); index++) {
      if (now.goblins.get(index).resting) {
        now.goblins.get(index).skipped++;
      } else {
        now.goblins.get(index).skipped = 0;
        work(index);
      }
    }
    int open = now.contracts.size();
    now.contracts.removeIf(c -> now.goblins.get(c.goblin).skipped >= 3);
    now.broken += open - now.contracts.size();
    if (now.night % 7 == 0) {
      for (Goblin goblin : now.goblins) {
        int before = goblin.debt;
        if (before > 0) {
          goblin.debt = Math.min(999, before + before / 10 + 1);
        }
        now.interest += goblin.debt - before;
      }
    }
  }

  private void work(int index) {
    Goblin goblin = now.goblins.get(index);
    int energy = energy(goblin);
    int power = now.brooms.stream().filter(b -> !b.banished).mapToInt(b -> b.power).max().orElse(0);
    for (Contract contract : new ArrayList<>(now.contracts)) {
      if (contract.goblin == index) {
        if (contract.effort > energy) {
          return;
        }
        energy -= contract.effort;
        now.dust[contract.room] = Math.max(0, now.dust[contract.room] - 10 - power);
        now.contracts.remove(contract);
        now.done++;
        int paid = Math.min(contract.wage, now.chest);
        now.unpaid += contract.wage - paid;
        now.chest -= paid;
        int back = Math.min(paid, goblin.debt);
        goblin.debt -= back;
        now.chest += back;
        goblin.purse += paid - back;
      }
    }
  }

  private <T> T predicted(int nights, Supplier<T> answer) {
    State before = now;
    now = before.copy();
    nights(nights);
    T result = answer.get();
    now = before;
    return result;
  }

  private int best(List<Contract> left, int energy) {
    if (left.isEmpty()) {
      return 0;
    }
    Contract first = left.get(0);
    List<Contract> others = left.subList(1, left.size());
    int without = best(others, energy);
    return first.effort > energy ? without : Math.max(without, first.wage + best(others, energy - first.effort));
  }

  private int best(int index) {
    Goblin goblin = goblin(index);
    List<Contract> own = new ArrayList<>(now.contracts);
    own.removeIf(c -> c.goblin != index);
    return best(own, energy(goblin));
  }

  private int nightsUntilDone(int id) {
    contract(id);
    for (int nights = 1; nights <= 60; nights++) {
      boolean gone = predicted(nights, () -> now.contracts.stream().noneMatch(c -> c.id == id));
      if (gone) {
        needState(!goblin(contract(id).goblin).resting);
        return nights;
      }
    }
    throw new IllegalStateException();
  }

  private String goblinText(int index) {
    Goblin goblin = goblin(index);
    return index + "s" + goblin.strength + "p" + goblin.purse + (goblin.debt == 0 ? "" : "d" + goblin.debt)
        + (goblin.resting ? "z" : "");
  }

  private String contractsText() {
    List<String> parts = new ArrayList<>();
    for (Contract c : now.contracts) {
      parts.add(c.id + ":" + c.goblin + ">" + c.room + "@" + c.wage + "/" + c.effort);
    }
    return String.join(" ", parts);
  }

  private int runScript() {
    String script = buffer;
    buffer = "";
    if (!SCRIPT.matcher(script).matches()) {
      errorPosition = firstWrong(script);
      throw new IllegalArgumentException();
    }
    State before = now.copy();
    String[] commands = script.split(";");
    for (int i = 0; i < commands.length; i++) {
      try {
        command(commands[i]);
      } catch (RuntimeException e) {
        now = before;
        failedCommand = i;
        throw new IllegalStateException();
      }
    }
    past.add(before);
    if (past.size() > 8) {
      past.remove(0);
    }
    return commands.length;
  }

  private static int firstWrong(String script) {
    for (int length = 1; length <= script.length(); length++) {
      Matcher matcher = SCRIPT.matcher(script.substring(0, length));
      if (!matcher.matches() && !matcher.hitEnd()) {
        return length - 1;
      }
    }
    return script.length();
  }

  private void command(String text) {
    List<String> words = Arrays.asList("goblin", "broom", "banish", "recall", "hire", "cancel", "rest", "wake", "lend",
        "fund", "spend", "night");
    String[] names = {"addGoblin", "addBroom", "banishBroom", "recallBroom", "hire", "cancelContract", "rest", "wake",
        "lend", "fund", "spend", "passNights"};
    String[] parts = text.split("[ /]");
    int[] a = new int[Math.max(1, parts.length - 1)];
    a[0] = 1;
    for (int i = 1; i < parts.length; i++) {
      a[i - 1] = Integer.parseInt(parts[i]);
    }
    perform(names[words.indexOf(parts[0])], a);
  }

  /** The answer of any other call by its name in the face. */
  Object ask(String name, int... a) {
    switch (name) {
      case "dust":
        needIndex(in(a[0], 0, 5));
        return now.dust[a[0]];
      case "roomByDust":
        needElement(in(a[0], 0, 5));
        List<Integer> rooms = new ArrayList<>(Arrays.asList(0, 1, 2, 3, 4, 5));
        rooms.sort(Comparator.comparingInt(r -> -now.dust[r]));
        return rooms.get(a[0]);
      case "broomCount":
        return now.brooms.size();
      case "power":
        return broom(a[0]).power;
      case "isBanished":
        return broom(a[0]).banished;
      case "goblinCount":
        return now.goblins.size();
      case "strength":
        return goblin(a[0]).strength;
      case "purse":
        return goblin(a[0]).purse;
      case "debt":
        return goblin(a[0]).debt;
      case "skippedNights":
        return goblin(a[0]).skipped;
      case "isResting":
        return goblin(a[0]).resting;
      case "energy":
        return energy(goblin(a[0]));
      case "goblinByWealth":
        needElement(in(a[0], 0, now.goblins.size() - 1));
        List<Goblin> sorted = new ArrayList<>(now.goblins);
        sorted.sort(Comparator.comparingInt((Goblin g) -> g.debt - g.purse).thenComparingInt(g -> -g.strength));
        return now.goblins.indexOf(sorted.get(a[0]));
      case "bestWages":
      case "bestWagesByTable":
        return best(a[0]);
      case "openContracts":
        return now.contracts.size();
      case "contractAt":
        needElement(in(a[0], 0, now.contracts.size() - 1));
        return now.contracts.get(a[0]).id;
      case "goblinOf":
        return contract(a[0]).goblin;
      case "roomOf":
        return contract(a[0]).room;
      case "wage":
        return contract(a[0]).wage;
      case "effort":
        return contract(a[0]).effort;
      case "nightsUntilDone":
        return nightsUntilDone(a[0]);
      case "chestAfter":
        needArgument(in(a[0], 0, 60));
        return predicted(a[0], () -> now.chest);
      case "debtAfter":
        goblin(a[0]);
        needArgument(in(a[1], 0, 60));
        return predicted(a[1], () -> goblin(a[0]).debt);
      case "night":
        return now.night;
      case "chest":
        return now.chest;
      case "allCrumbs":
      case "allCrumbsByAccounts":
        return now.accounts;
      case "doneTotal":
        return now.done;
      case "brokenTotal":
        return now.broken;
      case "unpaidTotal":
        return now.unpaid;
      case "interestTotal":
        return now.interest;
      case "meanDust":
        return Arrays.stream(now.dust).sum() / 6.0;
      case "reliability":
        need(now.done + now.broken != 0, new ArithmeticException());
        return now.done / (float) (now.done + now.broken);
      case "isConsistent":
        return true;
      default:
        return askOfTexts(name, a);
    }
  }

  private Object askOfTexts(String name, int... a) {
    switch (name) {
      case "renderGoblin":
        output = goblinText(a[0]);
        return output.length();
      case "renderContracts":
        output = contractsText();
        return output.length();
      case "outputAt":
        needIndex(in(a[0], 0, output.length() - 1));
        return output.charAt(a[0]);
      case "type":
        needArgument(in(a[0], 32, 126));
        needState(buffer.length() < 60);
        buffer += (char) a[0];
        return buffer.length();
      case "runScript":
        return runScript();
      case "errorPosition":
        needElement(errorPosition != null);
        return errorPosition;
      case "failedCommand":
        needElement(failedCommand != null);
        return failedCommand;
      case "undo":
        needElement(!past.isEmpty());
        now = past.remove(past.size() - 1);
        return past.size();
      case "save":
        saved = now.copy();
        return now.contracts.size();
      case "restore":
        needState(saved != null);
        now = saved.copy();
        past.clear();
        return now.contracts.size();
      default:
        throw new Error(name);
    }
  }
}
