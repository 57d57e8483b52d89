import java.util.ArrayDeque;
import java.util.ArrayList;
import java.util.Arrays;
import java.util.Deque;
import java.util.HashMap;
import java.util.HashSet;
import java.util.List;
import java.util.Map;
import java.util.Set;
import java.util.regex.Matcher;
import java.util.regex.Pattern;

/**
 * The document once more, written another way than DebateHall and as close to its words as can be,
 * however slow: ReferenceTest compares the two.
 */
final class Reference {
  static final class Speaker {
    String name;
    int time;
  }

  static final class Item {
    String name;
    int kind;
    int by;
    int strength;
    int source = -1;
    int target = -1;
    boolean conceded;
    boolean countsForNothing;
  }

  static final class Token {
    String text;
    String kind;
    int place;
  }

  static final class Failure extends Exception {
    final int error;
    final int place;

    Failure(int error, int place) {
      this.error = error;
      this.place = place;
    }
  }

  private static final Set<String> KEYWORDS = new HashSet<>(Arrays.asList((
      "speaker time claim by weight attack support from on for force if concede recall "
      + "in out open conceded not and or").split(" ")));
  private static final Pattern TOKEN = Pattern.compile("[a-z][a-z0-9]*|[0-9]+|[\\[\\];]");

  private StringBuilder tape = new StringBuilder();
  private String paper = "";
  private List<Speaker> speakers = new ArrayList<>();
  private List<Item> items = new ArrayList<>();
  private int errorAt = -1;

  private static Integer bad() {
    throw new IndexOutOfBoundsException();
  }

  private void needSpeaker(int s) {
    if (s < 0 || s >= speakers.size()) bad();
  }

  private void needItem(int i) {
    if (i < 0 || i >= items.size()) bad();
  }

  int feed(int... numbers) {
    if (tape.length() + 20 > 2000) throw new IllegalStateException();
    for (int n : numbers) {
      for (int shift = 24; shift >= 0; shift -= 8) tape.append((char) (n >>> shift & 255));
    }
    return tape.length();
  }

  int trim(int n) {
    if (n < 0 || n > tape.length()) throw new IllegalArgumentException();
    tape.setLength(n);
    return n;
  }

  int tell() {
    String text = tape.toString();
    tape = new StringBuilder();
    List<Speaker> oldSpeakers = speakers;
    List<Item> oldItems = items;
    speakers = new ArrayList<>();
    for (Speaker s : oldSpeakers) speakers.add(copy(s));
    items = new ArrayList<>();
    for (Item i : oldItems) items.add(copy(i));
    try {
      List<Token> tokens = tokens(text);
      checkGrammar(tokens);
      List<Token> line = new ArrayList<>();
      for (Token t : tokens) {
        line.add(t);
        if (t.text.equals(";")) {
          carryOut(line);
          line.clear();
        }
      }
      errorAt = -1;
      return 0;
    } catch (Failure f) {
      speakers = oldSpeakers;
      items = oldItems;
      errorAt = f.place;
      return f.error;
    }
  }

  private static Speaker copy(Speaker s) {
    Speaker c = new Speaker();
    c.name = s.name;
    c.time = s.time;
    return c;
  }

  private static Item copy(Item i) {
    Item c = new Item();
    c.name = i.name;
    c.kind = i.kind;
    c.by = i.by;
    c.strength = i.strength;
    c.source = i.source;
    c.target = i.target;
    c.conceded = i.conceded;
    return c;
  }

  private static List<Token> tokens(String text) {
    List<Token> tokens = new ArrayList<>();
    Matcher m = TOKEN.matcher(text);
    int at = 0;
    while (at < text.length()) {
      if (text.charAt(at) == ' ' || text.charAt(at) == '\n') {
        at++;
        continue;
      }
      Token t = new Token();
      t.place = at;
      if (m.region(at, text.length()).lookingAt()) {
        t.text = m.group();
        char c = t.text.charAt(0);
        boolean word = c >= 'a' && c <= 'z';
        boolean number = c >= '0' && c <= '9';
        t.kind = word ? (t.text.length() > 8 ? "wrong" : KEYWORDS.contains(t.text) ? t.text : "name")
            : number ? (t.text.length() > 6 ? "wrong" : "number") : t.text;
      } else {
        t.text = text.substring(at, at + 1);
        t.kind = "wrong";
      }
      at += t.text.length();
      tokens.add(t);
    }
    Token end = new Token();
    end.text = "";
    end.kind = "end";
    end.place = text.length();
    tokens.add(end);
    return tokens;
  }

  /** The forms of the lines; behind # comes a test, what is between ( and ) may be missing. */
  private static final String[] FORMS = {
    "speaker name ; ", "speaker name time number ; ", "claim name by name ; ", "claim name by name weight number ; ",
    "attack name from name on name ; ", "attack name from name on name force number ; ",
    "attack name from name on name if #", "attack name from name on name force number if #",
    "support name from name for name ; ", "support name from name for name force number ; ",
    "support name from name for name if #", "support name from name for name force number if #",
    "concede name ; ", "recall name ; "};

  /** Goes along the tokens with what the line has been so far, and inside a test with what is open there. */
  private static void checkGrammar(List<Token> tokens) throws Failure {
    String line = "";
    boolean inTest = false;
    boolean single = false;
    boolean nameDue = false;
    Deque<String> open = new ArrayDeque<>();
    for (int n = 0; n < tokens.size(); n++) {
      Token t = tokens.get(n);
      boolean right;
      if (n == 400 && !t.kind.equals("end")) {
        right = false;
      } else if (!inTest) {
        if (t.kind.equals("end")) {
          right = line.isEmpty();
        } else {
          line += t.kind + " ";
          right = false;
          for (String form : FORMS) right |= form.startsWith(line);
          if (line.endsWith("if ")) {
            inTest = true;
            single = true;
          }
          if (line.endsWith("; ")) line = "";
        }
      } else if (nameDue) {
        right = t.kind.equals("name");
        nameDue = false;
        single = false;
        while (!open.isEmpty() && open.peek().equals("not")) open.pop();
      } else if (single) {
        if (t.kind.equals("not") || t.kind.equals("[")) {
          open.push(t.kind);
          right = open.size() <= 6;
        } else {
          right = Arrays.asList("in", "out", "open", "conceded").contains(t.kind);
          nameDue = true;
        }
      } else if (t.kind.equals("and") || t.kind.equals("or")) {
        right = true;
        single = true;
      } else if (t.kind.equals("]")) {
        right = !open.isEmpty();
        if (right) open.pop();
        while (!open.isEmpty() && open.peek().equals("not")) open.pop();
      } else {
        right = t.kind.equals(";") && open.isEmpty();
        inTest = false;
        line = "";
      }
      if (!right) throw new Failure(1, t.place);
    }
  }

  private int speakerNamed(String name) {
    for (int s = 0; s < speakers.size(); s++) if (speakers.get(s).name.equals(name)) return s;
    return -1;
  }

  private int itemNamed(String name) {
    for (int i = 0; i < items.size(); i++) if (items.get(i).name.equals(name)) return i;
    return -1;
  }

  private int behind(List<Token> line, String keyword) {
    for (int n = 0; n < line.size(); n++) if (line.get(n).kind.equals(keyword)) return n + 1;
    return -1;
  }

  private int number(List<Token> line, String keyword, int usual, int low, int high) throws Failure {
    int n = behind(line, keyword);
    if (n < 0) return usual;
    int value = Integer.parseInt(line.get(n).text);
    if (value < low || value > high) throw new Failure(5, line.get(n).place);
    return value;
  }

  private int needItemNamed(Token t) throws Failure {
    int i = itemNamed(t.text);
    if (i < 0) throw new Failure(3, t.place);
    return i;
  }

  private void carryOut(List<Token> line) throws Failure {
    String what = line.get(0).kind;
    Token name = line.get(1);
    Token semicolon = line.get(line.size() - 1);
    int speaker;
    int cost;
    Item item = null;
    if (what.equals("speaker")) {
      if (speakerNamed(name.text) >= 0) throw new Failure(2, name.place);
      if (speakers.size() == 6) throw new Failure(4, name.place);
      Speaker s = new Speaker();
      s.name = name.text;
      s.time = number(line, "time", 300, 0, 3600);
      speakers.add(s);
      return;
    } else if (what.equals("concede") || what.equals("recall")) {
      int i = needItemNamed(name);
      boolean so = what.equals("concede");
      if (items.get(i).conceded == so) throw new Failure(6, name.place);
      items.get(i).conceded = so;
      speaker = items.get(i).by;
      cost = 2;
    } else {
      if (itemNamed(name.text) >= 0) throw new Failure(2, name.place);
      if (items.size() == 40) throw new Failure(4, name.place);
      item = new Item();
      item.name = name.text;
      boolean holds = true;
      if (what.equals("claim")) {
        Token by = line.get(3);
        item.by = speakerNamed(by.text);
        if (item.by < 0) throw new Failure(3, by.place);
        item.strength = number(line, "weight", 10, 1, 50);
        cost = 10 + item.strength;
      } else {
        item.kind = what.equals("attack") ? 1 : 2;
        item.source = needItemNamed(line.get(3));
        if (items.get(item.source).kind != 0) throw new Failure(3, line.get(3).place);
        item.by = items.get(item.source).by;
        item.target = needItemNamed(line.get(5));
        if (item.kind == 1 && items.get(item.target).by == item.by) throw new Failure(6, line.get(5).place);
        item.strength = number(line, "force", 5, 1, 50);
        cost = 5 + item.strength;
        int test = behind(line, "if");
        if (test >= 0) holds = holds(line.subList(test, line.size() - 1));
      }
      speaker = item.by;
      if (!holds) item = null;
    }
    if (speakers.get(speaker).time < cost) throw new Failure(7, semicolon.place);
    speakers.get(speaker).time -= cost;
    if (item != null) items.add(item);
  }

  /** Writes T and F for what the names tell, and then reckons on this row of letters until one is left. */
  private boolean holds(List<Token> test) throws Failure {
    Map<Integer, Integer> rounds = new HashMap<>();
    int[] state = stand(items, rounds);
    StringBuilder row = new StringBuilder();
    for (int n = 0; n < test.size(); n++) {
      Token t = test.get(n);
      if (t.kind.equals("[") || t.kind.equals("]")) row.append(t.kind);
      else if (t.kind.equals("not") || t.kind.equals("and") || t.kind.equals("or")) row.append(t.kind.charAt(0));
      else {
        int i = needItemNamed(test.get(++n));
        boolean so = t.kind.equals("in") ? state[i] == 1 : t.kind.equals("out") ? state[i] == 2
            : t.kind.equals("open") ? state[i] == 0 : items.get(i).conceded;
        row.append(so ? 'T' : 'F');
      }
    }
    String s = row.toString();
    while (s.length() > 1) {
      String before = s;
      s = s.replace("nT", "f").replace("nF", "t").toUpperCase().replace('N', 'n').replace('A', 'a').replace('O', 'o');
      s = s.replace("[T]", "T").replace("[F]", "F");
      if (!s.equals(before)) continue;
      s = s.replaceFirst("(?<!n)TaT", "T").replaceFirst("(?<!n)([TF])a([TF])", "$1&$2");
      s = s.replace("T&T", "T").replaceAll("[TF]&[TF]", "F");
      if (!s.equals(before)) continue;
      s = s.replaceFirst("(?<![an])FoF(?!a)", "F");
      if (!s.equals(before)) continue;
      s = s.replaceFirst("(?<![an])(ToT|ToF|FoT)(?!a)", "T");
      if (s.equals(before)) throw new IllegalStateException("can't reckon " + s);
    }
    return s.equals("T");
  }

  private static boolean reaches(int force, Item target) {
    return target.kind == 0 ? target.strength <= 2 * force : target.strength <= force;
  }

  private static boolean strong(List<Item> all, Item a) {
    return a.kind == 1 && reaches(a.strength, all.get(a.target));
  }

  /** Returns 1 for in, 2 for out, 0 for open, and puts the rounds of what is found. */
  private static int[] stand(List<Item> all, Map<Integer, Integer> rounds) {
    int[] state = new int[all.size()];
    for (int round = 1; ; round++) {
      int[] next = state.clone();
      boolean found = false;
      for (int i = 0; i < all.size(); i++) {
        if (state[i] != 0) continue;
        Item item = all.get(i);
        boolean anyIn = false;
        boolean allOut = true;
        for (int a = 0; a < all.size(); a++) {
          if (all.get(a).kind == 1 && all.get(a).target == i && strong(all, all.get(a))) {
            anyIn |= state[a] == 1;
            allOut &= state[a] == 2;
          }
        }
        boolean out = item.conceded || anyIn || item.source >= 0 && state[item.source] == 2;
        boolean in = !out && (item.source < 0 || state[item.source] == 1) && allOut;
        if (out || in) {
          next[i] = out ? 2 : 1;
          rounds.put(i, round);
          found = true;
        }
      }
      if (!found) return state;
      state = next;
    }
  }

  private int[] state() {
    return stand(items, new HashMap<>());
  }

  private int score(int s, List<Item> all) {
    int[] state = stand(all, new HashMap<>());
    int score = speakers.get(s).time / 60;
    for (int i = 0; i < all.size(); i++) {
      Item item = all.get(i);
      if (item.by != s || item.countsForNothing) continue;
      if (item.conceded) score--;
      if (item.kind == 0 && state[i] == 1) {
        score += item.strength;
        for (int j = 0; j < all.size(); j++) {
          if (all.get(j).kind == 2 && all.get(j).target == i && state[j] == 1) score += all.get(j).strength;
        }
      }
      if (item.kind == 0 && state[i] == 0) score += item.strength / 2;
      if (item.kind == 1 && state[i] == 1 && strong(all, item)) score += item.strength / 2;
      if (item.kind == 2 && state[i] == 1) score++;
    }
    return score;
  }

  private int lead(int s, List<Item> all) {
    Integer greatest = null;
    for (int o = 0; o < speakers.size(); o++) {
      if (o != s && (greatest == null || score(o, all) > greatest)) greatest = score(o, all);
    }
    return score(s, all) - (greatest == null ? 0 : greatest);
  }

  int errorAt() {
    return errorAt;
  }

  int count(int what) {
    if (what < 0 || what > 11) bad();
    Map<Integer, Integer> rounds = new HashMap<>();
    int[] state = stand(items, rounds);
    int n = 0;
    for (int i = 0; i < items.size(); i++) {
      if (what >= 2 && what <= 4 && items.get(i).kind == what - 2) n++;
      if (what == 5 && state[i] == 1 || what == 6 && state[i] == 2 || what == 7 && state[i] == 0) n++;
      if (what == 8 && items.get(i).conceded) n++;
      if (what == 9) n = Math.max(n, rounds.getOrDefault(i, 0));
    }
    return what == 0 ? speakers.size() : what == 1 ? items.size() : what == 10 ? tape.length()
        : what == 11 ? paper.length() : n;
  }

  int speaker(int s, int what) {
    needSpeaker(s);
    if (what < 0 || what > 6) bad();
    int n = 0;
    for (Item i : items) {
      if (i.by == s && (what == 6 ? i.conceded : what == 3 + i.kind)) n++;
    }
    return what == 0 ? speakers.get(s).time : what == 1 ? score(s, items) : what == 2 ? lead(s, items) : n;
  }

  int item(int i, int what) {
    needItem(i);
    if (what < 0 || what > 10) bad();
    Map<Integer, Integer> rounds = new HashMap<>();
    int[] state = stand(items, rounds);
    Item item = items.get(i);
    int attacks = 0;
    int supports = 0;
    for (Item other : items) {
      if (other.target == i && other.kind == 1) attacks++;
      if (other.target == i && other.kind == 2) supports++;
    }
    return new int[] {item.kind, item.by, item.strength, item.source, item.target, state[i],
        rounds.getOrDefault(i, 0), item.conceded ? 1 : 0, strong(items, item) ? 1 : 0, attacks, supports}[what];
  }

  int give(int s, int time) {
    needSpeaker(s);
    if (time < 1 || time > 3600) throw new IllegalArgumentException();
    return speakers.get(s).time += time;
  }

  int why(int i) {
    needItem(i);
    int[] state = state();
    if (state[i] != 2) return -1;
    for (int a = 0; a < items.size(); a++) {
      if (items.get(a).target == i && strong(items, items.get(a)) && state[a] == 1) return a;
    }
    return items.get(i).conceded ? -2 : -3;
  }

  int far(int i) {
    needItem(i);
    return items.get(i).kind == 0 ? 0 : 1 + far(items.get(i).target);
  }

  boolean defends(int i, int other) {
    needItem(i);
    needItem(other);
    Item item = items.get(i);
    if (!strong(items, item) || state()[i] != 1) return false;
    Item attacked = items.get(item.target);
    return strong(items, attacked) && attacked.target == other;
  }

  int leader() {
    int best = -1;
    for (int s = speakers.size() - 1; s >= 0; s--) {
      if (best < 0 || score(s, items) >= score(best, items)) best = s;
    }
    return best;
  }

  private List<Item> withConceded(int... more) {
    List<Item> all = new ArrayList<>();
    for (Item i : items) all.add(copy(i));
    for (int i : more) all.get(i).conceded = true;
    return all;
  }

  int conceding(int i, int s) {
    needItem(i);
    needSpeaker(s);
    return lead(s, withConceded(i));
  }

  int concede(int s) {
    needSpeaker(s);
    int best = -1;
    int most = lead(s, items);
    for (int i = 0; i < items.size(); i++) {
      if (items.get(i).by == s && lead(s, withConceded(i)) > most) {
        most = lead(s, withConceded(i));
        best = i;
      }
    }
    return best;
  }

  private List<Item> withAttack(int target, int s, int force) {
    List<Item> all = withConceded();
    Item claim = new Item();
    claim.by = s;
    claim.strength = 1;
    claim.countsForNothing = true;
    all.add(claim);
    Item attack = new Item();
    attack.kind = 1;
    attack.by = s;
    attack.source = all.size() - 1;
    attack.target = target;
    attack.strength = force;
    attack.countsForNothing = true;
    all.add(attack);
    return all;
  }

  int advise(int s, int force) {
    needSpeaker(s);
    if (force < 1 || force > 50) throw new IllegalArgumentException();
    int best = -1;
    int most = lead(s, items);
    for (int i = 0; i < items.size(); i++) {
      if (items.get(i).by != s && lead(s, withAttack(i, s, force)) > most) {
        most = lead(s, withAttack(i, s, force));
        best = i;
      }
    }
    return best;
  }

  int least(int i) {
    needItem(i);
    int force = 1;
    while (!reaches(force, items.get(i))) force++;
    return force;
  }

  int frees(int i) {
    needItem(i);
    if (state()[i] == 1) return 0;
    for (int one = 0; one < items.size(); one++) {
      if (one != i && stand(withConceded(one), new HashMap<>())[i] == 1) return 1 + one;
    }
    int best = -1;
    for (int other = items.size() - 1; other >= 0; other--) {
      for (int one = other - 1; one >= 0; one--) {
        if (one != i && other != i && stand(withConceded(one, other), new HashMap<>())[i] == 1) {
          int answer = 100 * (1 + one) + 1 + other;
          best = best < 0 ? answer : Math.min(best, answer);
        }
      }
    }
    return best;
  }

  int sheet() {
    int[] state = state();
    StringBuilder text = new StringBuilder();
    for (int i = 0; i < items.size(); i++) {
      text.append(items.get(i).name).append(' ').append(speakers.get(items.get(i).by).name).append(' ');
      text.append(new String[] {"open", "in", "out"}[state[i]]).append('\n');
    }
    paper = text.toString();
    return paper.length();
  }

  int byteAt(int index) {
    if (index < 0 || index >= paper.length()) bad();
    return paper.charAt(index);
  }

  double share() {
    int[] state = state();
    int in = 0;
    int all = 0;
    for (int i = 0; i < items.size(); i++) {
      if (items.get(i).kind == 0) {
        all++;
        if (state[i] == 1) in++;
      }
    }
    return all == 0 ? 0 : (double) in / all;
  }

  long digest() {
    List<Integer> numbers = new ArrayList<>();
    for (int w = 0; w < 12; w++) numbers.add(count(w));
    for (int s = 0; s < speakers.size(); s++) for (int w = 0; w < 7; w++) numbers.add(speaker(s, w));
    for (int i = 0; i < items.size(); i++) {
      for (int w = 0; w < 11; w++) numbers.add(item(i, w));
      numbers.add(why(i));
      numbers.add(far(i));
    }
    for (char c : paper.toCharArray()) numbers.add((int) c);
    long d = 719;
    for (int x : numbers) d = d * 31 + x;
    return d;
  }

  List<String> speakerNames() {
    List<String> names = new ArrayList<>();
    for (Speaker s : speakers) names.add(s.name);
    return names;
  }

  List<String> itemNames() {
    List<String> names = new ArrayList<>();
    for (Item i : items) names.add(i.name);
    return names;
  }

  List<String> claimNames() {
    List<String> names = new ArrayList<>();
    for (Item i : items) if (i.kind == 0) names.add(i.name);
    return names;
  }
}
