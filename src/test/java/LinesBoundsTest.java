/**
 * How lines are carried out, and the errors 2 to 7: each sentence of the document that names a boundary, in its order,
 * with the last that is allowed and the first that is not.
 */
public final class LinesBoundsTest {
  /** c is of a, d of b. */
  private static final String PAIR = "speaker a time 3600; speaker b time 3600; claim c by a; claim d by b;";
  private static final String MOVES = PAIR + "attack x from c on d; support s from c for d;";

  public static void main(String[] args) {
    takenNames();
    namesOfSpeakers();
    namesOfClaims();
    namesOfItems();
    sixSpeakers();
    fortyItems();
    rangeOfTime();
    rangeOfWeight();
    rangeOfForce();
    ownTargets();
    concededAlready();
    timeForLines();
    usualNumbers();
    errorsFromLeftToRight();
    errorsLineByLine();
    nothingIsToldWithAnError();
    testsThatDoNotHold();
    whatTestsTell();
    whatStandsThen();
    whatBindsMore();
    Check.end("LinesBoundsTest");
  }

  /** Error 2: speakers have their names, and items theirs. */
  private static void takenNames() {
    for (String name : new String[] {"a", "b"}) {
      Check.errorAtBar(MOVES, "speaker |" + name + ";", 2);
      Check.error(MOVES, "claim " + name + " by a;", 0, -1);
      Check.error(MOVES, "attack " + name + " from c on d;", 0, -1);
      Check.error(MOVES, "support " + name + " from c for d;", 0, -1);
    }
    for (String name : new String[] {"c", "d", "x", "s"}) {
      Check.error(MOVES, "speaker " + name + ";", 0, -1);
      Check.errorAtBar(MOVES, "claim |" + name + " by a;", 2);
      Check.errorAtBar(MOVES, "attack |" + name + " from c on d;", 2);
      Check.errorAtBar(MOVES, "attack |" + name + " from c on d if out c;", 2);
      Check.errorAtBar(MOVES, "support |" + name + " from c for d;", 2);
    }
    Check.errorAtBar(MOVES, "speaker e; speaker |e;", 2);
    Check.errorAtBar(MOVES, "claim e by a; attack |e from c on d;", 2);
    Check.errorAtBar(MOVES, "attack y from c on d; support |y from c for d;", 2);
    Check.errorAtBar(MOVES, "support y from c for d; claim |y by a;", 2);
    Check.errorAtBar(MOVES + "concede x;", "claim |x by a;", 2);
  }

  /** Error 3, "behind by of a speaker". */
  private static void namesOfSpeakers() {
    for (String name : new String[] {"c", "x", "s", "q", "e"}) {
      Check.errorAtBar(MOVES, "claim e by |" + name + ";", 3);
    }
    Check.error(MOVES, "claim e by b;", 0, -1);
    Check.error(MOVES, "speaker q; claim e by q;", 0, -1);
  }

  /** Error 3, "behind from of a claim". */
  private static void namesOfClaims() {
    for (String name : new String[] {"a", "x", "s", "q", "y"}) {
      Check.errorAtBar(MOVES, "attack y from |" + name + " on d;", 3);
      Check.errorAtBar(MOVES, "support y from |" + name + " for d;", 3);
    }
    Check.error(MOVES, "attack y from d on c;", 0, -1);
    Check.error(MOVES, "support y from d for c;", 0, -1);
    Check.error(MOVES + "concede c;", "attack y from c on d;", 0, -1);
  }

  /** Error 3, "all others of an item": behind on and for, of concede and recall, and of a test. */
  private static void namesOfItems() {
    String[] lines = {"attack y from c on |;", "support y from c for |;", "concede |;", "recall |;",
        "attack y from c on d if in |;", "attack y from c on d if out |;", "attack y from c on d if open |;",
        "attack y from c on d if conceded |;", "support y from c for d if in c or in |;",
        "support y from c for d if out c and not [in |];", "support y from c for d if [conceded |] or in q;"};
    for (String line : lines) {
      for (String name : new String[] {"a", "q", "y"}) {
        Check.errorAtBar(MOVES, line.replace("|", "|" + name), 3);
      }
      for (String name : new String[] {"c", "d", "x", "s"}) {
        int error = Check.tell(Check.hall(MOVES), line.replace("|", name));
        Check.same("an item in " + line + " " + name, error == 3 && !line.contains(" q"), false);
      }
    }
  }

  /** Error 4: "the name of the 7th speaker". */
  private static void sixSpeakers() {
    StringBuilder text = new StringBuilder();
    for (int n = 1; n <= 6; n++) {
      text.append("speaker s").append(n).append(n == 6 ? ";" : " time 0;");
      Check.same(n + " speakers", Check.hall(text.toString()).count(0), n);
    }
    Check.errorAtBar(text.toString(), "speaker |s7;", 4);
    Check.errorAtBar(text.toString(), "speaker |s7 time 9999;", 4);
    Check.errorAtBar(text.toString(), "speaker |s6;", 2);
    Check.errorAtBar(text.toString(), "speaker |s1 time 9999;", 2);
    Check.errorAtBar("", text + "speaker |s7;", 4);
    Check.error(text.toString(), "claim c by s6;", 0, -1);
    DebateHall hall = Check.hall(text.toString());
    Check.same("the 6th speaker", hall.speaker(5, 0), 300);
    Check.outOfBounds("the 7th speaker", () -> hall.speaker(6, 0));
  }

  private static String itemsOf(int n) {
    StringBuilder text = new StringBuilder("speaker a time 3600; speaker b time 3600; claim d by b;");
    for (int item = 2; item <= n; item++) {
      text.append("claim c").append(item).append(" by a;");
    }
    return text.toString();
  }

  /** Error 4: "if there are 40 items (whatever a test tells)". */
  private static void fortyItems() {
    for (String line : new String[] {"claim |e by a;", "attack |e from d on c2;", "support |e from d for d;",
        "attack |e from d on c2 if in d;", "support |e from d for d if in d;", "attack |e from d on c2 if out d;",
        "support |e from d for d if out d;"}) {
      Check.error(itemsOf(39), line.replace("|", ""), 0, -1);
      Check.errorAtBar(itemsOf(40), line, 4);
      Check.errorAtBar(itemsOf(39), "claim f by a;" + line, 4);
    }
    Check.error(itemsOf(39), "support e from d for d if out d; claim e by a;", 0, -1);
    Check.errorAtBar(itemsOf(40), "claim |c40 by a;", 2);
    Check.errorAtBar(itemsOf(40), "attack |c40 from d on c2 if out d;", 2);
    Check.errorAtBar(itemsOf(40), "claim |e by q weight 0;", 4);
    Check.errorAtBar(itemsOf(40), "attack |e from q on q force 0 if in q;", 4);
    Check.error(itemsOf(40), "speaker e; concede c40; recall c40; concede d;", 0, -1);
    DebateHall hall = Check.hall(itemsOf(40));
    Check.same("40 items", hall.count(1), 40);
    Check.same("the 40th item", hall.item(39, 1), 0);
    Check.outOfBounds("the 41st item", () -> hall.item(40, 1));
  }

  /** Error 5: "time 0 to 3600". */
  private static void rangeOfTime() {
    for (int time : new int[] {0, 1, 3599, 3600}) {
      Check.same("time " + time, Check.hall("speaker a time " + time + ";").speaker(0, 0), time);
    }
    for (int time : new int[] {3601, 4096, 65536, 99999, 999999}) {
      Check.errorAtBar("", "speaker a time |" + time + ";", 5);
    }
  }

  /** Error 5: "weight and force 1 to 50". */
  private static void rangeOfWeight() {
    for (int weight : new int[] {1, 2, 49, 50}) {
      Check.same("weight " + weight, Check.hall(PAIR + "claim e by a weight " + weight + ";").item(2, 2), weight);
    }
    for (int weight : new int[] {0, 51, 256, 65537, 999999}) {
      Check.errorAtBar(PAIR, "claim e by a weight |" + weight + ";", 5);
    }
  }

  private static void rangeOfForce() {
    for (String line : new String[] {"attack x from c on d force |", "support x from c for d force |"}) {
      for (int force : new int[] {1, 2, 49, 50}) {
        String told = line.replace("|", "") + force + ";";
        Check.same(told, Check.hall(PAIR + told).item(2, 2), force);
      }
      for (int force : new int[] {0, 51, 257, 65537, 999999}) {
        Check.errorAtBar(PAIR, line + force + ";", 5);
        Check.errorAtBar(PAIR, line + force + " if out c;", 5);
      }
    }
  }

  /** Error 6: "an item of the same speaker as the claim behind from"; only of attacks. */
  private static void ownTargets() {
    String items = MOVES + "claim e by a; attack y from d on c;";
    for (String name : new String[] {"c", "e", "x", "s"}) {
      Check.errorAtBar(items, "attack z from c on |" + name + ";", 6);
      Check.errorAtBar(items, "attack z from e on |" + name + " force 51;", 6);
      Check.error(items, "attack z from d on " + name + ";", 0, -1);
      Check.error(items, "support z from c for " + name + ";", 0, -1);
      Check.error(items, "support z from d for " + name + ";", 0, -1);
    }
    Check.error(items, "attack z from c on y; attack w from d on z;", 0, -1);
    Check.errorAtBar(items, "attack z from d on |y;", 6);
    Check.errorAtBar(items, "attack z from d on |d if out d;", 6);
  }

  /** Error 6: "an item that is conceded; the name behind recall that of one that is not". */
  private static void concededAlready() {
    for (String name : new String[] {"c", "d", "x", "s"}) {
      Check.errorAtBar(MOVES, "recall |" + name + ";", 6);
      Check.error(MOVES, "concede " + name + ";", 0, -1);
      String conceded = MOVES + "concede " + name + ";";
      Check.errorAtBar(conceded, "concede |" + name + ";", 6);
      Check.error(conceded, "recall " + name + ";", 0, -1);
      String recalled = conceded + "recall " + name + ";";
      Check.errorAtBar(recalled, "recall |" + name + ";", 6);
      Check.error(recalled, "concede " + name + ";", 0, -1);
    }
    Check.errorAtBar(MOVES, "concede c; concede |c;", 6);
    Check.errorAtBar(MOVES, "concede c; recall c; recall |c;", 6);
    Check.errorAtBar(MOVES + "concede c;", "recall |d;", 6);
    Check.errorAtBar(MOVES + "concede c;", "recall |x;", 6);
  }

  /** Tells a line to its speaker p with just the time for it, and with 1 less. */
  private static void needs(int time, String before, int spent, String line) {
    String others = "speaker a; claim c by a;";
    String enough = others + "speaker p time " + (11 + spent + time) + "; claim o by p weight 1;" + before;
    DebateHall hall = Check.hall(enough);
    Check.same("time for: " + line, hall.speaker(1, 0), time);
    Check.same("just enough for: " + line, Check.tell(hall, line.replace("|", "")), 0);
    Check.same("all is taken by: " + line, hall.speaker(1, 0), 0);
    Check.same("not from the other by: " + line, hall.speaker(0, 0), 280);
    String less = others + "speaker p time " + (10 + spent + time) + "; claim o by p weight 1;" + before;
    Check.errorAtBar(less, line, 7);
  }

  /** "A line takes time of its speaker"; error 7: "not time enough for the line; it is at its semicolon". */
  private static void timeForLines() {
    needs(20, "", 0, "claim e by p|;");
    needs(11, "", 0, "claim e by p weight 1 |;");
    needs(60, "", 0, "claim e by p weight 50 \n|;");
    for (String move : new String[] {"attack x from o on c", "support x from o for c", "support x from o for o"}) {
      needs(10, "", 0, move + "|;");
      needs(6, "", 0, move + " force 1|;");
      needs(55, "", 0, move + " force 50|;");
      needs(10, "", 0, move + " if in c|;");
      needs(10, "", 0, move + " if out c|;");
      needs(55, "", 0, move + " force 50 if not [in c] |;");
    }
    needs(2, "", 0, "concede o|;");
    needs(2, "concede o;", 2, "recall o |;");
    needs(2, "attack x from o on c;", 10, "concede x|;");
    needs(4, "", 0, "concede o; recall o|;");
    needs(31, "", 0, "claim e by p; claim f by p weight 1|;");
    Check.error("speaker a time 0;", "speaker b time 0; speaker e time 3600;", 0, -1);
    Check.errorAtBar("speaker a time 0; speaker b;", "claim c by b; claim d by a weight 1|;", 7);
  }

  /** "300 without it", "10 without it", "5 without it". */
  private static void usualNumbers() {
    DebateHall hall = Check.hall("speaker a; speaker b; claim c by a; claim d by b; attack x from c on d; support s from c for d;");
    Check.same("time", Check.hall("speaker a;").speaker(0, 0), 300);
    Check.same("weight", hall.item(0, 2), 10);
    Check.same("force of an attack", hall.item(2, 2), 5);
    Check.same("force of a support", hall.item(3, 2), 5);
    Check.same("time left", hall.speaker(0, 0) * 1000 + hall.speaker(1, 0), 260280);
  }

  /** Of two parts of a line that are wrong the first one is told; a's time is spent, so that the semicolon always is. */
  private static void leftToRight(int[] errors, String[] right, String[] wrong) {
    String poor = "speaker a time 20; speaker b; claim c by a; claim d by b;";
    for (int first = 0; first < errors.length; first++) {
      for (int second = first; second < errors.length; second++) {
        StringBuilder line = new StringBuilder();
        for (int part = 0; part < right.length; part++) {
          line.append(part == first ? wrong[part] : part == second ? wrong[part].replace("|", "") : right[part]);
        }
        Check.errorAtBar(poor, line + ";", errors[first]);
      }
    }
    Check.errorAtBar(poor, String.join("", right) + "|;", 7);
  }

  /** "in each of them its names and numbers are looked at from left to right, and the first error is told". */
  private static void errorsFromLeftToRight() {
    leftToRight(new int[] {2, 3, 5}, new String[] {"claim e", " by a", " weight 5"},
        new String[] {"claim |c", " by |q", " weight |51"});
    int[] errors = {2, 3, 6, 5, 3, 3};
    leftToRight(errors, new String[] {"attack x", " from c", " on d", " force 5", " if in c", " or in c"},
        new String[] {"attack |c", " from |q", " on |c", " force |0", " if in |q", " or in |q"});
    errors[2] = 3;
    leftToRight(errors, new String[] {"attack x", " from c", " on d", " force 5", " if in c", " or in c"},
        new String[] {"attack |d", " from |a", " on |q", " force |51", " if out |a", " and open |q"});
    leftToRight(errors, new String[] {"support x", " from c", " for c", " force 5", " if in c", " or in c"},
        new String[] {"support |c", " from |q", " for |q", " force |51", " if not in |q", " or [in |q]"});
    leftToRight(new int[] {3}, new String[] {"concede c"}, new String[] {"concede |q"});
    leftToRight(new int[] {6}, new String[] {"concede c"}, new String[] {"recall |c"});
    Check.errorAtBar("speaker a;", "speaker |a time 3601;", 2);
  }

  /** "the lines are carried out one by one". */
  private static void errorsLineByLine() {
    String scene = "speaker a time 20; speaker b; claim c by a; claim d by b;";
    String[] lines = {"speaker |a;", "claim e by |q;", "claim e by b weight |0;", "recall |d;", "concede c|;"};
    int[] errors = {2, 3, 5, 6, 7};
    for (int first = 0; first < lines.length; first++) {
      for (String then : lines) {
        Check.errorAtBar(scene, lines[first] + then.replace("|", ""), errors[first]);
        Check.errorAtBar(scene, "claim f by b;" + lines[first] + then.replace("|", ""), errors[first]);
      }
      Check.errorAtBar(scene, lines[first].replace("|", "") + "|?", 1);
    }
    Check.errorAtBar(scene, "claim e by b; claim |e by b;", 2);
    Check.error(scene, "speaker e; claim f by e; attack y from f on c if in f; concede y; recall y;", 0, -1);
  }

  /** "If the text has one, nothing of it is told": not even what was carried out before the error. */
  private static void nothingIsToldWithAnError() {
    String scene = "speaker a time 500; speaker b time 500; speaker p time 0; claim c by a; claim d by b; claim k by b;"
        + "attack x from c on d; concede k;";
    String good = "speaker e; claim f by e; attack y from f on c; support s from c for x if in x; support t from f for f;"
        + "recall k; concede d; concede y; recall y;";
    String[] bad = {"?", "claim f by a;", "claim g by f;", "speaker g; speaker h; speaker i;", "claim g by a weight 51;",
        "attack g from f on t;", "claim g by p weight 1;", "attack g from f on c if in c or in q;", "recall f;"};
    int[] errors = {1, 2, 3, 4, 5, 6, 7, 3, 6};
    DebateHall twin = Check.hall(scene);
    twin.sheet();
    long before = twin.digest();
    Check.same("tell what is good", Check.tell(twin, good), 0);
    for (int n = 0; n < bad.length; n++) {
      DebateHall hall = Check.hall(scene);
      hall.sheet();
      Check.same("tell what is good, then " + bad[n], Check.tell(hall, good + bad[n]), errors[n]);
      Check.same("nothing is told with " + bad[n], hall.digest(), before);
      Check.same("tell what is good behind " + bad[n], Check.tell(hall, good), 0);
      Check.same("all is told behind " + bad[n], hall.digest(), twin.digest());
    }
  }

  /** "takes this time, but is not told: its name is free". */
  private static void testsThatDoNotHold() {
    for (String line : new String[] {"attack x from c on d force 7 if out c;", "support x from c for d force 7 if open d;"}) {
      DebateHall hall = Check.hall(PAIR);
      int time = hall.speaker(0, 0);
      Check.same(line, Check.tell(hall, line), 0);
      Check.same("the time of " + line, time - hall.speaker(0, 0), 12);
      Check.same("not told: " + line, hall.count(1) * 100 + hall.count(3) * 10 + hall.count(4), 200);
      Check.same("once more: " + line, Check.tell(hall, line + line), 0);
      Check.same("their time: " + line, time - hall.speaker(0, 0), 36);
      Check.error(PAIR, line + "claim x by b;", 0, -1);
      Check.errorAtBar(PAIR, line + "concede |x;", 3);
      Check.errorAtBar(PAIR, line + "attack y from d on |x;", 3);
      Check.errorAtBar(PAIR, line.replace(" if ", " if not ") + "claim |x by b;", 2);
    }
  }

  /** Whether a test tells it, in a scene in which c is in, d conceded, k out by an attack, and e and f are open. */
  private static boolean holds(String test) {
    String scene = "speaker a time 900; speaker b time 900; claim c by a; claim d by b; claim e by a; claim f by b; claim k by b;"
        + "concede d; attack x from e on f; attack y from f on e; attack z from c on k;";
    DebateHall hall = Check.hall(scene);
    Check.same("told: " + test, Check.tell(hall, "support t from c for c if " + test + ";"), 0);
    int told = hall.count(4);
    Check.same("told: " + test, Check.tell(hall, "attack t" + (told + 1) + " from c on f if " + test + ";"), 0);
    Check.same("an attack if " + test, hall.count(3) - 3, told);
    return told == 1;
  }

  /** "in, out, open tell whether an item is in, out, or open, ... conceded whether it is conceded". */
  private static void whatTestsTell() {
    String[] states = {"in", "out", "open", "conceded"};
    String[] holding = {"c in", "d out", "d conceded", "k out", "e open", "f open", "x open", "y open", "z in"};
    for (String item : new String[] {"c", "d", "k", "e", "f", "x", "y", "z"}) {
      for (String state : states) {
        boolean due = false;
        for (String one : holding) {
          due |= one.equals(item + " " + state);
        }
        Check.same(state + " " + item, holds(state + " " + item), due);
        Check.same("not " + state + " " + item, holds("not " + state + " " + item), !due);
      }
    }
  }

  /** "(by what stands then)": with the lines before it, without itself. */
  private static void whatStandsThen() {
    DebateHall hall = Check.hall(PAIR + "support s from c for c if in d; concede d; support t from c for c if in d;"
        + "support u from c for c if out d; recall d; support v from c for c if in d; attack x from c on d if in d;"
        + "support w from c for c if in d; support y from c for c if out d; support z from d for c if in d;");
    Check.same("the items", Check.paper(hall), "c a in\nd b out\ns a in\nu a in\nv a in\nx a in\ny a in\n");
    Check.same("an item in its own test", Check.tell(hall, "support q from c for c if in q;"), 3);
    Check.same("a new item", Check.tell(hall, "claim n by a; support q from n for n if in n;"), 0);
    Check.same("is told", hall.count(1), 9);
  }

  /** "and binds more than or, not more than and": four singles, each with or without not, that are true or false. */
  private static void whatBindsMore() {
    for (int bits = 0; bits < 128; bits++) {
      StringBuilder test = new StringBuilder();
      boolean due = false;
      boolean both = true;
      for (int n = 0; n < 4; n++) {
        boolean one = (bits >> n & 1) == 0;
        boolean turned = (bits * 5 >> n & 1) == 0;
        boolean and = n < 3 && (bits >> 4 + n & 1) == 0;
        test.append(turned ? "not " : "").append(one != turned ? "in c" : "out c").append(n == 3 ? "" : and ? " and " : " or ");
        both &= one;
        if (!and) {
          due |= both;
          both = true;
        }
      }
      Check.same(test.toString(), holds(test.toString()), due);
    }
    Check.same("[ ] bind most", holds("[in c or in c] and out c"), false);
    Check.same("[ ] bind most, behind and", holds("out c and [in c or in c]"), false);
    Check.same("not turns all of [ ]", holds("not [out c and in c]"), true);
    Check.same("not turns only one", holds("not in c and out c or not out c"), true);
  }
}
