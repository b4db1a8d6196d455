import java.util.ArrayDeque;
import java.util.ArrayList;
import java.util.Deque;
import java.util.HashMap;
import java.util.LinkedHashMap;
import java.util.List;
import java.util.Map;
import java.util.Set;
import java.util.TreeSet;
import java.util.regex.Matcher;
import java.util.regex.Pattern;

/**
 * The form of a script as the grammar in ../shared/DOC.md gives it, read from there, so that it is not retyped: a net
 * of places, in which some steps take a sign and others are free. Each place leads to the end.
 */
final class Grammar {
  private static final Pattern TOKEN = Pattern.compile("\"([^\"]*)\"|(\\w+)|([\\[\\](){}|])");

  private final Map<String, String> rules = new HashMap<>();
  private final List<Map<Character, Integer>> steps = new ArrayList<>();
  private final List<List<Integer>> freeSteps = new ArrayList<>();
  private final int end;

  Grammar(String document) {
    String block = document.substring(document.indexOf("```text") + 7);
    for (String line : block.substring(0, block.indexOf("```")).split("\n")) {
      if (line.contains("=")) {
        rules.put(line.substring(0, line.indexOf('=')).trim(), line.substring(line.indexOf('=') + 1));
      }
    }
    end = rule("script", place());
  }

  private int place() {
    steps.add(new HashMap<>());
    freeSteps.add(new ArrayList<>());
    return steps.size() - 1;
  }

  /** A place behind a free step, so that nothing else starts from it. */
  private int fresh(int from) {
    int to = place();
    freeSteps.get(from).add(to);
    return to;
  }

  private int rule(String name, int from) {
    if (name.equals("digit")) {
      return signs("0123456789", from);
    }
    Deque<String> tokens = new ArrayDeque<>();
    Matcher matcher = TOKEN.matcher(rules.get(name));
    while (matcher.find()) {
      tokens.add(matcher.group());
    }
    return alternatives(tokens, from);
  }

  private int alternatives(Deque<String> tokens, int from) {
    int to = place();
    boolean more = true;
    while (more) {
      freeSteps.get(parts(tokens, fresh(from))).add(to);
      more = "|".equals(tokens.peek());
      if (more) {
        tokens.remove();
      }
    }
    return to;
  }

  private int parts(Deque<String> tokens, int from) {
    int at = from;
    while (!tokens.isEmpty() && !Set.of("|", ")", "]", "}").contains(tokens.peek())) {
      at = part(tokens.remove(), tokens, at);
    }
    return at;
  }

  private int part(String token, Deque<String> tokens, int from) {
    if (token.startsWith("\"")) {
      int at = from;
      for (char sign : token.substring(1, token.length() - 1).toCharArray()) {
        at = signs(String.valueOf(sign), at);
      }
      return at;
    }
    if (!Set.of("(", "[", "{").contains(token)) {
      return rule(token, from);
    }
    int first = fresh(from);
    int last = alternatives(tokens, first);
    tokens.remove();
    if (token.equals("[")) {
      freeSteps.get(first).add(last);
    }
    if (token.equals("{")) {
      freeSteps.get(last).add(first);
      return fresh(first);
    }
    return last;
  }

  private int signs(String any, int from) {
    int at = fresh(from);
    int to = place();
    for (char sign : any.toCharArray()) {
      steps.get(at).put(sign, to);
    }
    return to;
  }

  private Set<Integer> withFreeSteps(Set<Integer> places) {
    Set<Integer> all = new TreeSet<>(places);
    Deque<Integer> open = new ArrayDeque<>(places);
    while (!open.isEmpty()) {
      for (int to : freeSteps.get(open.remove())) {
        if (all.add(to)) {
          open.add(to);
        }
      }
    }
    return all;
  }

  private Set<Integer> start() {
    return withFreeSteps(Set.of(0));
  }

  private Set<Integer> after(Set<Integer> places, char sign) {
    Set<Integer> next = new TreeSet<>();
    for (int place : places) {
      Integer to = steps.get(place).get(sign);
      if (to != null) {
        next.add(to);
      }
    }
    return withFreeSteps(next);
  }

  private Set<Integer> after(String text) {
    Set<Integer> places = start();
    for (char sign : text.toCharArray()) {
      places = after(places, sign);
    }
    return places;
  }

  /** The error position of a text, or -1 if it has the form. */
  int errorPosition(String text) {
    Set<Integer> places = start();
    for (int i = 0; i < text.length(); i++) {
      places = after(places, text.charAt(i));
      if (places.isEmpty()) {
        return i;
      }
    }
    return places.contains(end) ? -1 : text.length();
  }

  /** For each way to begin a script, the first text that goes it. */
  List<String> beginnings() {
    return new ArrayList<>(ways("").values());
  }

  /** A text that begins with this one and has the form. */
  String completed(String beginning) {
    for (String text : ways(beginning).values()) {
      if (errorPosition(text) < 0) {
        return text;
      }
    }
    throw new IllegalArgumentException("no script begins with " + beginning);
  }

  /** For each way to go on from this text, the first text that goes it, the shorter ones first. */
  private Map<String, String> ways(String beginning) {
    Map<String, String> found = new LinkedHashMap<>();
    found.put(way(after(beginning), beginning), beginning);
    Deque<String> open = new ArrayDeque<>(List.of(beginning));
    while (!open.isEmpty()) {
      String text = open.remove();
      Set<Integer> places = after(text);
      for (char sign = 32; sign <= 126; sign++) {
        Set<Integer> next = after(places, sign);
        if (!next.isEmpty() && found.putIfAbsent(way(next, text + sign), text + sign) == null) {
          open.add(text + sign);
        }
      }
    }
    return found;
  }

  // The grammar leads "fund " and "spend " to the same places, but a program can read their numbers apart.
  private static String way(Set<Integer> places, String text) {
    return places + text.substring(text.lastIndexOf(';') + 1).replaceAll("[^a-z]", "");
  }
}
