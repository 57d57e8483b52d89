/**
 * Promises 9 to 22: each sentence of the document that names a boundary, in its order, on both sides of it.
 */
public final class CallBoundsTest {
  private static final int[] FAR_OFF = {Integer.MIN_VALUE, -65536, -64, -1, 40, 63, 64, 65536, Integer.MAX_VALUE};
  private static final String PAIR = "speaker a time 3600; speaker b time 3600;";
  /** c and e are of a, d and f of b. */
  private static final String FOUR = PAIR + "claim c by a; claim d by b; claim e by a; claim f by b;";

  public static void main(String[] args) {
    give();
    whyOut();
    whyNot();
    far();
    defends();
    leader();
    conceding();
    concede();
    concedeOnlyOwn();
    adviseByLead();
    adviseByForce();
    adviseOnlyOthers();
    adviseWithoutRoomOrTime();
    least();
    freesByNone();
    freesByOne();
    freesByTwo();
    freesByTheLastItems();
    sheet();
    byteAt();
    share();
    digest();
    askingChangesNothing();
    throwingChangesNothing();
    Check.end("CallBoundsTest");
  }

  /** "if time is not 1 to 3600", "if there is no such speaker", which is named first. */
  private static void give() {
    DebateHall hall = Check.hall("speaker a time 3600; speaker b time 0;");
    Check.same("give 1", hall.give(1, 1), 1);
    Check.same("give 3600", hall.give(1, 3600), 3601);
    Check.same("give to what is 3600", hall.give(0, 3600), 7200);
    for (int time : new int[] {0, -1, -3600, 3601, 3602, 65537, Integer.MIN_VALUE, Integer.MAX_VALUE}) {
      Check.illegal("give " + time, () -> hall.give(1, time));
      Check.outOfBounds("give " + time + " to nobody", () -> hall.give(2, time));
    }
    for (int speaker : new int[] {-1, 2, 6, Integer.MIN_VALUE, Integer.MAX_VALUE}) {
      Check.outOfBounds("give to " + speaker, () -> hall.give(speaker, 1));
    }
    Check.same("nothing more was given", hall.speaker(0, 0) * 10000 + hall.speaker(1, 0), 72003601);
    Check.outOfBounds("give in a new hall", () -> new DebateHall().give(0, 1));
  }

  private static void why(String text, int item, int due) {
    Check.same("why " + item + ": " + text, Check.hall(FOUR + text).why(item), due);
  }

  /** "the attack on it that is strong enough and in, with the smallest number; otherwise -2 ..., otherwise -3". */
  private static void whyOut() {
    why("attack x from d on c;", 0, 4);
    why("attack x from d on c; attack y from f on c;", 0, 4);
    why("attack w from d on c force 4; attack x from d on c force 5;", 0, 5);
    why("support s from d for c; attack x from d on c;", 0, 5);
    why("support s from c for c force 50; attack x from d on c;", 0, 5);
    why("attack w from d on c; attack x from d on c; concede w;", 0, 5);
    why("attack w from d on c; attack x from f on c; concede d;", 0, 5);
    why("attack w from d on c; attack v from e on w; attack x from f on c;", 0, 6);
    why("attack w from f on e; attack x from d on c;", 0, 5);
    why("attack x from d on c; concede c;", 0, 4);
    why("attack w from d on c force 4; concede c;", 0, -2);
    why("attack w from d on c; concede c; concede w;", 0, -2);
    why("concede c;", 0, -2);
    why("support s from c for c; concede c;", 4, -3);
    why("support s from c for c; concede c; concede s;", 4, -2);
    why("support s from c for c; attack x from d on s; concede c;", 4, 5);
    why("support s from c for c; attack x from d on s; concede c; concede s;", 4, 5);
    why("support s from c for c; attack x from d on s force 4; concede c;", 4, -3);
    why("attack y from c on d; attack x from f on c;", 4, -3);
  }

  /** "-1 if it is not out". */
  private static void whyNot() {
    why("", 0, -1);
    why("attack x from d on c force 4;", 0, -1);
    why("concede c; recall c;", 0, -1);
    why("attack x from c on d; attack y from d on c;", 0, -1);
    why("attack x from c on d; attack y from d on c;", 4, -1);
    why("attack x from c on d; attack y from d on c; support s from c for e;", 6, -1);
    DebateHall hall = Check.hall(FOUR);
    Check.same("why of the last item", hall.why(3), -1);
    Check.outOfBounds("why 4", () -> hall.why(4));
    Check.outOfBounds("why in a new hall", () -> new DebateHall().why(0));
    for (int item : FAR_OFF) {
      Check.outOfBounds("why " + item, () -> hall.why(item));
    }
  }

  /** "a claim 0, an attack or a support 1 more than its target": up to the farthest there can be. */
  private static void far() {
    StringBuilder text = new StringBuilder(PAIR + "claim i0 by a; claim i1 by b;");
    for (int n = 2; n < 40; n++) {
      boolean support = n % 3 == 0;
      text.append(support ? "support i" : "attack i").append(n).append(n % 2 == 0 ? " from i0" : " from i1")
          .append(support ? " for i" : " on i").append(n - 1).append(" force 1;");
    }
    DebateHall hall = Check.hall(text.toString());
    for (int item = 0; item < 40; item++) {
      Check.same("far " + item, hall.far(item), Math.max(0, item - 1));
    }
    for (int item : FAR_OFF) {
      Check.outOfBounds("far " + item, () -> hall.far(item));
    }
    StringBuilder supports = new StringBuilder(PAIR + "claim i0 by a;");
    for (int n = 1; n < 40; n++) {
      supports.append("support i").append(n).append(" from i0 for i").append(n - 1).append(" force 1;");
    }
    Check.same("the farthest", Check.hall(supports.toString()).far(39), 39);
    DebateHall four = Check.hall(FOUR + "support s from c for d; attack x from d on c;");
    Check.same("far of the last items", four.far(5) * 10 + four.far(4), 11);
    Check.outOfBounds("far 6", () -> four.far(6));
    Check.outOfBounds("far in a new hall", () -> new DebateHall().far(0));
  }

  private static void defending(String text, boolean due) {
    Check.same("y defends c: " + text, Check.hall(FOUR + text).defends(5, 0), due);
  }

  /** "an attack that is strong enough and in, on an attack that is strong enough, on the other one". */
  private static void defends() {
    defending("attack x from d on c; attack y from e on x;", true);
    defending("attack x from d on c force 9; attack y from e on x force 9;", true);
    defending("attack x from d on c force 9; attack y from e on x force 8;", false);
    defending("attack x from d on c force 4; attack y from e on x force 8;", false);
    defending("attack x from d on c; attack y from e on x; concede y;", false);
    defending("attack x from d on c; attack y from e on x; concede e;", false);
    defending("attack x from d on c; attack y from e on x; attack z from f on y;", false);
    defending("attack x from d on c; attack y from e on x; attack z from f on y force 4;", true);
    defending("attack x from d on c; attack y from e on x; concede x;", true);
    defending("attack x from d on c; attack y from c on x;", false);
    defending("attack x from d on c; support y from e for x;", false);
    defending("support x from d for c; attack y from e on x;", false);
    defending("attack x from d on e; attack y from e on x;", false);
    defending("attack x from d on c; attack y from e on d;", false);
    DebateHall hall = Check.hall(FOUR + "attack x from d on c; attack y from e on x;");
    for (int item = 0; item < 6; item++) {
      for (int other = 0; other < 6; other++) {
        Check.same("defends " + item + " " + other, hall.defends(item, other), item == 5 && other == 0);
      }
    }
    for (int no : new int[] {Integer.MIN_VALUE, -1, 6, 40, 64, Integer.MAX_VALUE}) {
      Check.outOfBounds("defends " + no + " 0", () -> hall.defends(no, 0));
      Check.outOfBounds("defends 5 " + no, () -> hall.defends(5, no));
      Check.outOfBounds("defends 0 " + no, () -> hall.defends(0, no));
      Check.outOfBounds("defends " + no + " " + no, () -> hall.defends(no, no));
    }
  }

  /** "of several the one with the smallest number; -1 without speakers". */
  private static void leader() {
    DebateHall empty = new DebateHall();
    Check.same("without speakers", empty.leader(), -1);
    Check.same("with an error", Check.tell(empty, "speaker a; speaker a;") * 10 + empty.leader(), 19);
    Check.same("one with 0", Check.hall("speaker a time 0;").leader(), 0);
    Check.same("one below 0", Check.hall("speaker a time 22; claim c by a; concede c;").leader(), 0);
    Check.same("all the same", Check.hall("speaker a; speaker b; speaker c;").leader(), 0);
    Check.same("the last by 1", Check.hall("speaker a; speaker b; speaker c; speaker d; speaker e; speaker f time 360;")
        .leader(), 5);
    Check.same("not the last by less", Check.hall("speaker a; speaker b; speaker f time 359;").leader(), 0);
    Check.same("the first of the two greatest", Check.hall("speaker a; speaker b time 360; speaker c time 360;").leader(), 1);
    Check.same("0 is more than -1", Check.hall("speaker a time 22; speaker b time 0; claim c by a; concede c;").leader(), 1);
    Check.same("-1 is more than -2",
        Check.hall("speaker a time 44; speaker b time 22; claim c by a; claim e by a; claim d by b;"
        + "concede c; concede e; concede d;").leader(), 1);
  }

  /** "if one item more was conceded (one that is conceded stays so)". */
  private static void conceding() {
    DebateHall hall = Check.hall("speaker a time 120; speaker b time 120; claim c by a weight 7; claim d by b weight 4;"
        + "attack x from c on d force 3; claim e by b weight 1; concede e;");
    int[][] due = {{-4, 4}, {10, -10}, {3, -3}, {9, -9}};
    for (int item = 0; item < 4; item++) {
      for (int speaker = 0; speaker < 2; speaker++) {
        Check.same("conceding " + item + " for " + speaker, hall.conceding(item, speaker), due[item][speaker]);
      }
    }
    Check.same("the lead as it is", hall.conceding(3, 0), hall.speaker(0, 2));
    Check.same("alone", Check.hall("speaker a time 80; claim c by a;").conceding(0, 0), 0);
    for (int no : FAR_OFF) {
      Check.outOfBounds("conceding " + no, () -> hall.conceding(no, 0));
      Check.outOfBounds("conceding for " + no, () -> hall.conceding(0, no));
      Check.outOfBounds("conceding " + no + " for " + no, () -> hall.conceding(no, no));
    }
    Check.outOfBounds("conceding 4", () -> hall.conceding(4, 0));
    Check.outOfBounds("conceding for 2", () -> hall.conceding(0, 2));
    Check.outOfBounds("conceding in a new hall", () -> new DebateHall().conceding(0, 0));
    Check.outOfBounds("conceding without items", () -> Check.hall(PAIR).conceding(0, 0));
  }

  /** The attack p of a, item 6, keeps q from saving a's claim big from z: conceding it brings big's weight, and costs 1. */
  private static String spoiled(int weight) {
    return "speaker a time 3600; speaker b time 3600; speaker e time 3600; claim big by a weight " + weight
        + "; claim k by a weight 1; claim d by b; claim t by e; attack z from d on big force 1;"
        + "attack q from t on z force 1; attack p from k on q force 1;";
  }

  /** "the lead would be the greatest, of several the one with the smallest number; only if this is greater than ... now". */
  private static void concede() {
    String second = "claim big2 by a weight 4; claim k2 by a weight 1; attack z2 from d on big2 force 2; attack q2 from t on z2 force 2;"
        + "attack p2 from k2 on q2 force 2;";
    Check.same("greater by 1", Check.hall(spoiled(2)).concede(0), 6);
    Check.same("what is the same", Check.hall(spoiled(1)).concede(0), -1);
    Check.same("the greater of two", Check.hall(spoiled(2) + second).concede(0), 11);
    Check.same("of two that are the same the first", Check.hall(spoiled(2) + second.replace("weight 4", "weight 3"))
        .concede(0), 6);
    Check.same("the first, which is greater", Check.hall(spoiled(2) + second.replace("weight 4", "weight 2")).concede(0), 6);
    Check.same("the second one only", Check.hall(spoiled(1) + second.replace("weight 4", "weight 3")).concede(0), 11);
    Check.same("of two that bring nothing", Check.hall(spoiled(1) + second.replace("weight 4", "weight 2")).concede(0), -1);
    Check.same("what is less", Check.hall(FOUR).concede(0), -1);
    Check.same("what is conceded", Check.hall(spoiled(2) + "concede p;").concede(0), -1);
    Check.same("without items", Check.hall(PAIR).concede(1), -1);
    Check.same("alone", Check.hall("speaker a; claim c by a;").concede(0), -1);
    DebateHall hall = Check.hall(spoiled(2));
    Check.outOfBounds("concede 3", () -> hall.concede(3));
    for (int no : FAR_OFF) {
      Check.outOfBounds("concede " + no, () -> hall.concede(no));
    }
    Check.outOfBounds("concede in a new hall", () -> new DebateHall().concede(0));
  }

  /** "Looks for the own item". */
  private static void concedeOnlyOwn() {
    Check.same("another's item would bring more", Check.hall(FOUR + "attack x from d on c;").concede(0), -1);
    Check.same("nothing for the others", Check.hall(spoiled(2)).concede(1) * 10 + Check.hall(spoiled(2)).concede(2), -11);
    Check.same("the own one, where another's brings more", Check.hall(spoiled(2)
        + "claim h by b weight 50; support s from h for h force 50;")
        .concede(0), 6);
  }

  /** "only if this is greater than it is now", "of several the one with the smallest number". */
  private static void adviseByLead() {
    Check.same("greater by 1", Check.hall(PAIR + "claim d by b weight 1;").advise(0, 1), 0);
    Check.same("what is the same", Check.hall(PAIR + "claim d by b weight 1; concede d;").advise(0, 50), -1);
    Check.same("an open one", Check.hall(PAIR + "claim c by a; claim d by b weight 1; attack x from c on d;"
        + "attack y from d on c;").advise(0, 1), 1);
    Check.same("of two that are the same the first", Check.hall(PAIR + "claim d by b; claim e by b;").advise(0, 50), 0);
    Check.same("the greatest", Check.hall(PAIR + "claim d by b weight 9; claim e by b;").advise(0, 50), 1);
    Check.same("of three", Check.hall(PAIR + "claim d by b weight 9; claim e by b; claim f by b;").advise(0, 50), 1);
    Check.same("the attack itself counts for nothing", Check.hall(PAIR
        + "claim c by a; claim d by b; attack x from d on c force 4;")
        .advise(0, 4), -1);
    Check.same("the one that leads by 1", Check.hall(PAIR + "speaker p time 3600; claim e by p weight 9; claim d by b;")
        .advise(0, 5), 1);
    Check.same("a third one leads as much", Check.hall(PAIR + "speaker p time 3600; claim e by p; claim d by b;").advise(0, 5),
        -1);
    Check.same("a third one leads by more", Check.hall(PAIR + "speaker p time 3600; claim d by b; claim e by p weight 50;")
        .advise(0, 24), -1);
    Check.same("and can be reached", Check.hall(PAIR + "speaker p time 3600; claim d by b; claim e by p weight 50;")
        .advise(0, 25), 1);
    Check.same("more than what falls with the other", Check.hall(PAIR
        + "claim d by b weight 8; claim e by b weight 10; support s from d for e force 4;")
        .advise(0, 50), 1);
    Check.same("what falls with it makes it as much", Check.hall(PAIR
        + "claim d by b weight 8; claim e by b weight 9; support s from d for e force 4;")
        .advise(0, 50), 0);
    Check.same("what falls with it makes it more", Check.hall(PAIR
        + "claim e by b weight 9; claim d by b weight 8; support s from d for d force 4;")
        .advise(0, 50), 1);
    Check.same("without items", Check.hall(PAIR).advise(0, 50), -1);
    Check.same("alone", Check.hall("speaker a; claim c by a;").advise(0, 50), -1);
  }

  /** "if force is not 1 to 50"; which items an attack of this force is strong enough for. */
  private static void adviseByForce() {
    // Whoever ends d brings in t, for p: the item 4, which comes from d, is the better one, if it is in reach.
    String scene = PAIR + "speaker p time 3600; claim c by a weight 1; claim d by b weight 1; claim t by p weight 50;"
        + "attack v from d on t force 25;";
    for (int force = 1; force <= 50; force++) {
      String weight = PAIR + "claim d by b weight ";
      Check.same("a claim for " + force, Check.hall(weight + Math.min(50, 2 * force) + ";").advise(0, force), 0);
      if (force < 25) {
        Check.same("a claim for more than " + force, Check.hall(weight + (2 * force + 1) + ";").advise(0, force), -1);
      }
      for (String move : new String[] {"attack x from d on c", "support x from d for d"}) {
        DebateHall hall = Check.hall(scene + move + " force " + force + ";");
        Check.same(move + " for " + force, hall.advise(0, force), 4);
        if (force > 1) {
          Check.same(move + " for less than " + force, hall.advise(0, force - 1) == 4, false);
        }
      }
    }
    DebateHall hall = Check.hall(PAIR + "claim d by b;");
    for (int force : new int[] {0, -1, 51, 52, 256, 257, Integer.MIN_VALUE, Integer.MAX_VALUE}) {
      Check.illegal("advise with " + force, () -> hall.advise(0, force));
      Check.illegal("advise 1 with " + force, () -> hall.advise(1, force));
      Check.outOfBounds("advise 2 with " + force, () -> hall.advise(2, force));
      Check.outOfBounds("advise -1 with " + force, () -> hall.advise(-1, force));
    }
    for (int no : FAR_OFF) {
      Check.outOfBounds("advise " + no, () -> hall.advise(no, 1));
    }
    Check.outOfBounds("advise in a new hall", () -> new DebateHall().advise(0, 1));
  }

  /** "the item of another speaker": attacking the own claim k would end the own attack p, which spoils. */
  private static void adviseOnlyOthers() {
    String text = "speaker a time 3600; speaker b time 3600; speaker e time 3600; claim big by a weight 50; claim k by a weight 1;"
        + "claim d by b weight 50; claim t by e weight 30; attack z from d on big force 25; attack q from t on z force 25;"
        + "attack p from k on q force 25;";
    Check.same("only the own ones are in reach", Check.hall(text).advise(0, 14), -1);
    Check.same("another's item brings less", Check.hall(text + "claim h by b weight 1;").advise(0, 14), 7);
    Check.same("the other one's are others", Check.hall(PAIR + "claim c by a; claim d by b;").advise(1, 5), 0);
  }

  /** "(nothing is changed; no time is taken)": nor is any needed, or room for items. */
  private static void adviseWithoutRoomOrTime() {
    StringBuilder text = new StringBuilder("speaker a time 0; speaker b time 3600;");
    for (int n = 10; n < 50; n++) {
      text.append("claim c").append(n).append(" by b weight ").append(n == 49 ? 2 : 1).append(";");
    }
    DebateHall hall = Check.hall(text.toString());
    Check.same("40 items", hall.count(1), 40);
    Check.same("the last of 40", hall.advise(0, 1), 39);
    Check.same("nothing to concede", hall.concede(0), -1);
    Check.same("conceding the last", hall.conceding(39, 0), hall.speaker(0, 2) + 3);
    Check.same("time left", hall.speaker(0, 0), 0);
  }

  /** "the least force, 1 to 50"; StandingBoundsTest has each weight and force. */
  private static void least() {
    DebateHall hall = Check.hall(PAIR + "claim c by a weight 1; claim d by b weight 50; attack x from c on d force 1;"
        + "support s from c for d force 50; claim e by a weight 3; concede e;");
    int[] due = {1, 25, 1, 50, 2};
    for (int item = 0; item < 5; item++) {
      Check.same("least " + item, hall.least(item), due[item]);
    }
    Check.outOfBounds("least 5", () -> hall.least(5));
    for (int no : FAR_OFF) {
      Check.outOfBounds("least " + no, () -> hall.least(no));
    }
    Check.outOfBounds("least in a new hall", () -> new DebateHall().least(0));
  }

  private static void frees(String text, int item, int due) {
    Check.same("frees " + item + ": " + text, Check.hall(FOUR + text).frees(item), due);
  }

  /** "0, if it is in now"; "-1 if not even two are enough". */
  private static void freesByNone() {
    frees("", 0, 0);
    frees("attack x from d on c force 4;", 0, 0);
    frees("concede c; recall c;", 0, 0);
    frees("concede c;", 0, -1);
    frees("concede c; attack x from d on c;", 0, -1);
    frees("support s from c for c; concede c;", 4, -1);
    frees("claim g by b; attack x from d on c; attack y from f on c; attack z from g on c;", 0, -1);
    DebateHall hall = Check.hall(FOUR);
    Check.outOfBounds("frees 4", () -> hall.frees(4));
    for (int no : FAR_OFF) {
      Check.outOfBounds("frees " + no, () -> hall.frees(no));
    }
    Check.outOfBounds("frees in a new hall", () -> new DebateHall().frees(0));
  }

  /** "1 and the item, if one is enough, of several the one with the smallest number", "of all others (whosever they are)". */
  private static void freesByOne() {
    frees("attack x from d on c;", 0, 2);
    frees("attack x from f on c;", 0, 4);
    frees("attack x from c on d; attack y from d on c;", 0, 2);
    frees("attack x from c on d; attack y from d on c;", 4, 2);
    frees("attack x from c on d;", 1, 1);
    frees("support s from e for c; attack x from d on e; concede x; recall x;", 4, 2);
    frees("attack x from d on c; attack y from e on x; concede y;", 0, 2);
    frees("attack x from d on c; attack y from d on c; attack z from d on c;", 0, 2);
    frees("attack x from d on c; attack y from e on x; attack z from f on y;", 0, 2);
    frees("attack x from d on c; concede d;", 0, 0);
    Check.same("an own one", Check.hall(PAIR + "speaker p time 900; claim big by a; claim k by a; claim t by p; claim d by b;"
        + "attack z from d on big; attack q from t on z; attack p from k on q;").frees(0), 2);
  }

  /** "100 * (1 and the one) + 1 and the other one, if two are needed, ... of several the least of these numbers". */
  private static void freesByTwo() {
    frees("attack x from d on c; attack y from f on c;", 0, 204);
    frees("attack x from d on c; attack y from f on c; concede d;", 0, 4);
    frees("attack x from d on c; attack y from f on c; support s from c for d;", 6, 204);
    frees("attack x from c on d; attack y from e on d;", 1, 103);
    frees("attack x from f on c; attack y from f on e; attack z from d on c;", 0, 204);
    frees("concede d; recall d; attack x from d on c; attack y from d on c; attack z from f on c;", 0, 204);
    frees("claim g by b; attack x from g on c; attack y from f on c;", 0, 405);
    String spoilers = PAIR + "speaker p time 3600; claim big by a; claim k by a; claim k2 by a; claim t by p; claim d by b;"
        + "claim f by b; attack z from d on big; attack z2 from f on big; attack q from t on z; attack q2 from t on z2;"
        + "attack p from k on q; attack p2 from k2 on q2;";
    Check.same("two own ones", Check.hall(spoilers).frees(0), 203);
    Check.same("an own one and another's", Check.hall(spoilers + "concede q2;").frees(0), 206);
    outOneIsNeeded();
  }

  /** Conceding d alone would bring in t, which d keeps out, and whose attack is on c too. */
  private static void outOneIsNeeded() {
    DebateHall hall = Check.hall("speaker a time 900; speaker b time 900; speaker e time 900; claim c by a; claim d by b;"
        + "claim t by e; attack z from d on c; attack w from d on c; attack y from d on t; attack x from t on c;");
    Check.same("t is out", hall.item(2, 5), 2);
    Check.same("frees with t", hall.frees(0), 203);
  }

  /** Claims of a, by which a hall is filled up. */
  private static String fillers(int n) {
    StringBuilder text = new StringBuilder();
    for (int claim = 10; claim < 10 + n; claim++) {
      text.append("claim c").append(claim).append(" by a weight 1;");
    }
    return text.toString();
  }

  /**
   * The greatest answers there can be. Conceding d or e instead of what comes from them would bring in t or u,
   * which attack c too.
   */
  private static void freesByTheLastItems() {
    String scene = PAIR + "speaker p time 3600; claim c by a; claim d by b; claim t by p; attack v from d on t; attack w from t on c;";
    DebateHall one = Check.hall(scene + fillers(34) + "attack x from d on c;");
    Check.same("40 items", one.count(1), 40);
    Check.same("only the last one frees", one.frees(0), 40);
    DebateHall none = Check.hall(scene + fillers(33) + "attack x from d on c; support s from c for c;");
    Check.same("the last one itself", none.frees(39), 39);
    DebateHall two = Check.hall(scene + "claim e by b; claim u by p; attack v2 from e on u; attack w2 from u on c;"
        + fillers(29)
        + "attack x from d on c; attack y from e on c;");
    Check.same("40 items", two.count(1), 40);
    Check.same("only the last two free", two.frees(0), 3940);
    DebateHall first = Check.hall(PAIR + "claim d by b; claim c by a;" + fillers(36)
        + "attack x from d on c; support s from c for c;");
    Check.same("the first one frees", first.frees(1) * 100 + first.frees(39), 101);
  }

  /** "Writes a sheet on the paper, in the place of what was there". */
  private static void sheet() {
    DebateHall hall = new DebateHall();
    Check.same("a sheet without items", hall.sheet() + hall.count(11), 0);
    Check.tell(hall, "speaker a; speaker a2345678; speaker none;");
    Check.same("a sheet with speakers only", hall.sheet() + hall.count(11), 0);
    Check.tell(hall, "claim c by a; claim c2345678 by a2345678; attack x from c on c2345678; attack y from c2345678 on c;");
    Check.same("no paper yet", hall.count(11), 0);
    String open = "c a open\nc2345678 a2345678 open\nx a open\ny a2345678 open\n";
    Check.same("open ones", Check.paper(hall), open);
    Check.same("bytes of it", hall.sheet() * 1000 + hall.count(11), open.length() * 1001);
    Check.tell(hall, "concede x;");
    Check.same("the paper is as it was", hall.count(11), open.length());
    String then = "c a out\nc2345678 a2345678 in\nx a out\ny a2345678 in\n";
    Check.same("shorter then", Check.paper(hall), then);
    Check.same("its bytes", hall.count(11), then.length());
    Check.outOfBounds("what was there is gone", () -> hall.byteAt(then.length()));
    Check.same("an error", Check.tell(hall, "claim z by a; ?"), 1);
    Check.same("changes no paper", Check.paper(hall), then);
  }

  /** "if there is no such place". */
  private static void byteAt() {
    DebateHall hall = Check.hall("speaker z9; claim a0 by z9;");
    Check.outOfBounds("byteAt without paper", () -> hall.byteAt(0));
    Check.same("bytes", hall.sheet(), 9);
    int[] due = {'a', '0', ' ', 'z', '9', ' ', 'i', 'n', 10};
    for (int index = 0; index < 9; index++) {
      Check.same("byteAt " + index, hall.byteAt(index), due[index]);
    }
    for (int index : new int[] {Integer.MIN_VALUE, -1, 9, 10, 919, 920, 921, Integer.MAX_VALUE}) {
      Check.outOfBounds("byteAt " + index, () -> hall.byteAt(index));
    }
    DebateHall open = Check.hall("speaker speaker1 time 900; speaker speaker2; claim claim111 by speaker1;"
        + "claim claim222 by speaker2; attack attack11 from claim111 on claim222; attack attack22 from claim222 on claim111;");
    for (int n = 11; n < 47; n++) {
      Check.tell(open, "support suppor" + n + " from claim111 for claim111 force 1;");
    }
    Check.same("the longest paper there is", open.sheet() * 1000 + open.count(11), 920920);
    Check.same("its first and last bytes", open.byteAt(0) * 10000 + open.byteAt(918) * 100 + open.byteAt(919), 990000 + 11000
        + 10);
    Check.outOfBounds("behind the longest paper", () -> open.byteAt(920));
  }

  /** "claims that are in, divided by all claims; 0 if there are none". */
  private static void share() {
    Check.same("of a new hall", new DebateHall().share(), 0.0);
    Check.same("without claims", Check.hall(PAIR).share(), 0.0);
    Check.same("one of one", Check.hall(PAIR + "claim c by a;").share(), 1.0);
    Check.same("none of one", Check.hall(PAIR + "claim c by a; concede c;").share(), 0.0);
    Check.same("one of three", Check.hall(PAIR + "claim c by a; claim d by b; claim e by b; attack x from c on d; concede e;")
        .share(), 1.0 / 3);
    Check.same("two of three", Check.hall(PAIR + "claim c by a; claim d by b; claim e by b; attack x from c on d;").share(),
        2.0 / 3);
    Check.same("open ones are not in", Check.hall(FOUR + "attack x from c on d; attack y from d on c;").share(), 0.5);
    Check.same("supports and attacks are no claims", Check.hall(FOUR
        + "support s from c for c; support t from c for c; concede t;"
        + "attack x from c on d;").share(), 0.75);
    StringBuilder text = new StringBuilder(PAIR);
    for (int n = 10; n < 50; n++) {
      text.append("claim c").append(n).append(" by a;");
    }
    DebateHall full = Check.hall(text.toString());
    Check.same("40 of 40", full.share(), 1.0);
    Check.tell(full, "concede c49;");
    Check.same("39 of 40", full.share(), 39.0 / 40);
  }

  /** "A number d starts with 719; ... d becomes d * 31 + x, which wraps around": numbers reckoned elsewhere. */
  private static void digest() {
    Check.same("of a new hall", new DebateHall().digest(), -5519524741028821937L);
    DebateHall speaker = Check.hall("speaker a;");
    speaker.feed(0, 0, 0, 0, 0);
    Check.same("of a speaker, and bytes on the tape", speaker.digest(), 1141759610339214194L);
    DebateHall claim = Check.hall("speaker a time 61; claim c by a weight 50;");
    claim.sheet();
    Check.same("of a claim, and paper", claim.digest(), 2944110688853602111L);
    DebateHall moves = Check.hall("speaker a time 160; speaker b time 119; claim c by a weight 50; claim d by b weight 9;"
        + "attack x from c on d force 7; support s from d for x force 3;");
    Check.same("of claims, an attack and a support", moves.digest(), -8079095981553753039L);
  }

  /** "nothing is changed": not by what would be, nor by any other question. */
  private static void askingChangesNothing() {
    DebateHall hall = Check.hall(spoiled(2) + "concede t;");
    hall.sheet();
    Check.same("an error", Check.tell(hall, "speaker a;"), 2);
    Check.put(hall, "speaker new");
    long before = hall.digest();
    for (int item = 0; item < hall.count(1); item++) {
      hall.why(item);
      hall.far(item);
      hall.defends(item, 0);
      hall.least(item);
      hall.conceding(item, 0);
      Check.same("after conceding " + item, hall.digest(), before);
      hall.frees(item);
      Check.same("after frees " + item, hall.digest(), before);
    }
    for (int speaker = 0; speaker < 3; speaker++) {
      hall.concede(speaker);
      Check.same("after concede " + speaker, hall.digest(), before);
      hall.advise(speaker, 50);
      Check.same("after advise " + speaker, hall.digest(), before);
    }
    hall.leader();
    hall.share();
    Check.same("after all", hall.digest(), before);
    Check.same("errorAt", hall.errorAt(), 8);
    hall.feed(0x73203b20, 0x20202020, 0x20202020, 0x20202020, 0x20202020);
    Check.same("the tape goes on", hall.tell(), 0);
    Check.same("with its name", Check.tell(hall, "claim n by news;"), 0);
  }

  /** "A method that throws an exception changes nothing." */
  private static void throwingChangesNothing() {
    DebateHall hall = Check.hall(spoiled(2));
    hall.sheet();
    Check.same("an error", Check.tell(hall, "speaker a;"), 2);
    Check.put(hall, " ".repeat(1990) + "speaker g;");
    long before = hall.digest();
    Check.gives("feed", () -> hall.feed(-1, -1, -1, -1, -1), "IllegalStateException");
    for (int n : new int[] {-1, 2001, Integer.MIN_VALUE, Integer.MAX_VALUE}) {
      Check.illegal("trim", () -> hall.trim(n));
      Check.outOfBounds("count", () -> hall.count(n));
      Check.outOfBounds("speaker", () -> hall.speaker(n, 0));
      Check.outOfBounds("what of a speaker", () -> hall.speaker(0, n));
      Check.outOfBounds("item", () -> hall.item(n, 0));
      Check.outOfBounds("what of an item", () -> hall.item(0, n));
      Check.outOfBounds("give", () -> hall.give(n, 1));
      Check.illegal("give so much", () -> hall.give(0, n == 2001 ? 3601 : n));
      Check.outOfBounds("why", () -> hall.why(n));
      Check.outOfBounds("far", () -> hall.far(n));
      Check.outOfBounds("defends", () -> hall.defends(n, 0));
      Check.outOfBounds("defends it", () -> hall.defends(0, n));
      Check.outOfBounds("conceding", () -> hall.conceding(n, 0));
      Check.outOfBounds("conceding for", () -> hall.conceding(0, n));
      Check.outOfBounds("concede", () -> hall.concede(n));
      Check.outOfBounds("advise", () -> hall.advise(n, 1));
      Check.illegal("advise with", () -> hall.advise(0, n));
      Check.outOfBounds("least", () -> hall.least(n));
      Check.outOfBounds("frees", () -> hall.frees(n));
      Check.outOfBounds("byteAt", () -> hall.byteAt(n));
      Check.same("nothing has changed", hall.digest(), before);
      Check.same("nor has errorAt", hall.errorAt(), 8);
    }
    Check.same("the tape is as it was", hall.tell(), 0);
    Check.same("and told", hall.count(0), 4);
  }
}
