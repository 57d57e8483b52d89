/**
 * "2. What stands" and promises 6 to 8: each sentence of the document that names a boundary, in its order,
 * on both sides of it.
 */
public final class StandingBoundsTest {
  private static final String PAIR = "speaker a time 3600; speaker b time 3600;";

  public static void main(String[] args) {
    strongOnClaims();
    strongOnMoves();
    othersDoNothing();
    outByConceding();
    outByAttacks();
    outBySources();
    inByAttacks();
    inBySources();
    whatWasFoundBefore();
    circlesOfAnyLength();
    fortyRounds();
    roundsAfterMoreWasTold();
    scoresOfClaims();
    scoresOfSupports();
    scoresOfAttacks();
    scoresOfConceded();
    minutes();
    leads();
    counts();
    speakerFacts();
    itemFacts();
    Check.end("StandingBoundsTest");
  }

  /** What item() tells of all items, joined. */
  private static String facts(DebateHall hall, int what) {
    StringBuilder text = new StringBuilder();
    for (int item = 0; item < hall.count(1); item++) {
      text.append(item == 0 ? "" : " ").append(hall.item(item, what));
    }
    return text.toString();
  }

  private static void stands(String text, String states, String rounds) {
    DebateHall hall = Check.hall(PAIR + text);
    Check.same("in 1, out 2, open 0: " + text, facts(hall, 5), states);
    Check.same("rounds: " + text, facts(hall, 6), rounds);
    int last = 0;
    for (int item = 0; item < hall.count(1); item++) {
      last = Math.max(last, hall.item(item, 6));
    }
    Check.same("rounds that found something: " + text, hall.count(9), last);
  }

  /** "a claim with a weight of at most 2 * its force": each weight with the force that just does, and 1 less. */
  private static void strongOnClaims() {
    for (int weight = 1; weight <= 50; weight++) {
      int force = weight / 2 + weight % 2;
      String text = PAIR + "claim c by a; claim d by b weight " + weight + "; attack x from c on d force ";
      DebateHall hall = Check.hall(text + force + ";");
      Check.same(text + force, hall.item(2, 8) * 10 + hall.item(1, 5), 12);
      Check.same("the least force on " + weight, hall.least(1), force);
      if (force > 1) {
        DebateHall less = Check.hall(text + (force - 1) + ";");
        Check.same(text + (force - 1), less.item(2, 8) * 10 + less.item(1, 5), 1);
        Check.same("the least force on " + weight + ", attacked", less.least(1), force);
      }
    }
  }

  /** "an attack or support with a force of at most its own". */
  private static void strongOnMoves() {
    for (int force = 1; force <= 50; force++) {
      for (String target : new String[] {"attack t from d on c", "support t from d for c"}) {
        String text = PAIR + "claim c by a weight 1; claim d by b;" + target + " force " + force
            + "; attack x from c on t force ";
        DebateHall hall = Check.hall(text + force + ";");
        Check.same(text + force, hall.item(3, 8), 1);
        Check.same("the least force on " + target + force, hall.least(2), force);
        if (force > 1) {
          Check.same(text + (force - 1), Check.hall(text + (force - 1) + ";").item(3, 8), 0);
        }
        if (force < 50) {
          Check.same(text + (force + 1), Check.hall(text + (force + 1) + ";").item(3, 8), 1);
        }
      }
    }
  }

  /** "Others do nothing": attacks that are too weak, and supports. */
  private static void othersDoNothing() {
    stands("claim c by a weight 11; claim d by b; attack x from d on c force 5;", "1 1 1", "1 1 2");
    stands("claim c by a weight 10; claim d by b; attack x from d on c force 5;", "2 1 1", "3 1 2");
    stands("claim c by a; claim d by b; support x from d for c force 50;", "1 1 1", "1 1 2");
    stands("claim c by a; claim d by b; attack x from d on c; attack y from c on x force 4;", "2 1 1 2", "3 1 2 4");
    stands("claim c by a; claim d by b; attack x from d on c force 4; attack y from c on d force 4;", "1 1 1 1", "1 1 2 2");
    Check.same("a claim is no strong attack", facts(Check.hall(PAIR + "claim c by a; support s from c for c force 50;"), 8),
        "0 0");
  }

  /** "out, if it is conceded". */
  private static void outByConceding() {
    stands("claim c by a; concede c;", "2", "1");
    stands("claim c by a; concede c; recall c;", "1", "1");
    stands("claim c by a; claim d by b; attack x from c on d; concede x;", "1 1 2", "1 2 1");
    stands("claim c by a; support s from c for c; concede s;", "1 2", "1 1");
    stands("claim c by a; claim d by b; attack x from c on d; attack y from d on c; concede c;", "2 1 2 1", "1 3 2 4");
  }

  /** "if an attack on it that is strong enough is in": one is enough. */
  private static void outByAttacks() {
    String three = "claim c by a; claim d by b; claim e by b; attack x from d on c; attack y from e on c;";
    stands(three, "2 1 1 1 1", "3 1 1 2 2");
    stands(three + "concede x;", "2 1 1 2 1", "3 1 1 1 2");
    stands(three + "concede x; concede y;", "1 1 1 2 2", "2 1 1 1 1");
    stands("claim c by a; claim d by b; attack x from d on c; attack y from c on x;", "0 1 0 0", "0 1 0 0");
    stands("claim c by a; claim d by b; claim e by a; attack x from d on c; attack y from e on x;",
        "1 1 1 2 1", "4 1 1 3 2");
    stands("claim c by a; claim d by b; support s from c for c; attack x from d on s;", "1 1 2 1", "1 1 3 2");
  }

  /** "or if its source is out". */
  private static void outBySources() {
    stands("claim c by a; claim d by b; attack x from c on d; concede c;", "2 1 2", "1 3 2");
    stands("claim c by a; claim d by b; support s from c for d; concede c;", "2 1 2", "1 1 2");
    stands("claim c by a; claim d by b; support s from d for c; concede c;", "2 1 1", "1 1 2");
    stands("claim c by a; claim d by b; attack x from d on c; concede c;", "2 1 1", "1 1 2");
  }

  /** "all attacks on it that are strong enough are out": an open one is enough that it is not. */
  private static void inByAttacks() {
    String circle = "claim e by a; claim f by b; attack x from e on f; attack y from f on e;";
    stands(circle, "0 0 0 0", "0 0 0 0");
    stands(circle + "claim c by a; attack z from f on c;", "0 0 0 0 0 0", "0 0 0 0 0 0");
    stands(circle + "claim c by a; attack z from f on c force 4;", "0 0 0 0 1 0", "0 0 0 0 1 0");
    stands(circle + "claim c by a; attack z from f on c; concede z;", "0 0 0 0 1 2", "0 0 0 0 2 1");
    stands(circle + "claim c by a; attack z from f on c; claim d by b; attack w from d on c; concede w;",
        "0 0 0 0 0 0 1 2", "0 0 0 0 0 0 1 1");
    stands(circle + "claim c by a; attack z from f on c; claim d by b; attack w from d on c;",
        "0 0 0 0 2 0 1 1", "0 0 0 0 3 0 1 2");
  }

  /** "its source (if it has one) is in": an open one is neither. */
  private static void inBySources() {
    String circle = "claim e by a; claim f by b; attack x from e on f; attack y from f on e; claim d by b;";
    stands(circle + "support s from e for d;", "0 0 0 0 1 0", "0 0 0 0 1 0");
    stands(circle + "support s from d for e;", "0 0 0 0 1 1", "0 0 0 0 1 2");
    stands(circle + "attack z from e on d;", "0 0 0 0 0 0", "0 0 0 0 0 0");
    stands(circle + "support s from e for d; concede s;", "0 0 0 0 1 2", "0 0 0 0 1 1");
  }

  /** "all by what was found before": nothing is used in the round in which it is found, whatever its number. */
  private static void whatWasFoundBefore() {
    stands("claim c by a; claim d by b; support s from c for c; attack x from c on d; attack y from d on s;",
        "1 2 1 1 2", "1 3 5 2 4");
    stands("claim c by a; concede c; claim d by b; support s from c for d; attack x from d on s;", "2 1 2 1", "1 1 2 2");
    stands("claim c by a; claim d by b; claim e by a; attack x from d on c; attack y from e on d; attack z from c on d;",
        "1 2 1 2 1 1", "5 3 1 4 2 6");
  }

  /** "also where claims attack each other in a circle": open with an even number, and with an odd one. */
  private static void circlesOfAnyLength() {
    String third = "speaker p time 3600;";
    stands(third + "claim c by a; claim d by b; claim e by p; attack x from c on d; attack y from d on e; attack z from e on c;",
        "0 0 0 0 0 0", "0 0 0 0 0 0");
    stands(third + "claim c by a; claim d by b; claim e by p; attack x from c on d; attack y from d on e; attack z from e on c;"
        + "concede z;", "1 2 1 1 2 2", "2 4 6 3 5 1");
    stands("claim c by a; claim d by b; attack x from c on d; attack y from d on x;", "1 0 0 0", "1 0 0 0");
    stands("claim c by a; claim d by b; attack x from c on d; attack y from d on x force 4;", "1 2 1 2", "1 3 2 4");
  }

  /** The most rounds that can find something: each item is found in one of its own. */
  private static void fortyRounds() {
    DebateHall hall = Check.hall("speaker a time 900; speaker b time 900; claim c1 by a weight 1;");
    for (int n = 2; n <= 20; n++) {
      Check.tell(hall, "claim c" + n + (n % 2 == 0 ? " by b" : " by a") + " weight 1;"
          + "attack x" + n + " from c" + (n - 1) + " on c" + n + " force 1;");
    }
    Check.same("39 rounds", hall.count(9), 39);
    Check.tell(hall, "support s from c20 for c20;");
    Check.same("40 rounds", hall.count(9), 40);
    Check.same("the last item, found in the last round", hall.item(39, 6) * 10 + hall.item(39, 5), 402);
    Check.same("no open ones", hall.count(7), 0);
    Check.same("conceding the first", Check.tell(hall, "concede c1;"), 0);
    Check.same("turns all in as many rounds", hall.count(9) * 10 + hall.item(39, 5), 401);
    Check.same("no rounds without items", new DebateHall().count(9) + Check.hall("speaker a;").count(9), 0);
    Check.same("one round", Check.hall(PAIR + "claim c by a;").count(9), 1);
  }

  /** "The round of an item is that in which it was found to be in or out, 0 for open ones": also for what was found before. */
  private static void roundsAfterMoreWasTold() {
    DebateHall hall = Check.hall(PAIR + "claim c by a; claim d by b; attack x from c on d;");
    Check.same("before the circle", facts(hall, 6) + " of " + hall.count(9), "1 3 2 of 3");
    Check.same("an error", Check.tell(hall, "attack y from d on c; recall y;"), 6);
    Check.same("as before", facts(hall, 6) + " of " + hall.count(9), "1 3 2 of 3");
    Check.same("the circle", Check.tell(hall, "attack y from d on c;"), 0);
    Check.same("in the circle", facts(hall, 6) + " of " + hall.count(9), "0 0 0 0 of 0");
    hall.conceding(3, 0);
    Check.same("what would be finds no rounds", facts(hall, 6) + " of " + hall.count(9), "0 0 0 0 of 0");
    Check.same("the end of the circle", Check.tell(hall, "concede x;"), 0);
    Check.same("behind the circle", facts(hall, 6) + " of " + hall.count(9), "4 2 1 3 of 4");
  }

  /** Returns the score without the minutes of time left. */
  private static int score(String text, int speaker) {
    DebateHall hall = Check.hall(text);
    return hall.speaker(speaker, 1) - hall.speaker(speaker, 0) / 60;
  }

  /** "for each own claim that is in its weight ...; for each that is open half its weight", each cut by itself. */
  private static void scoresOfClaims() {
    for (int weight = 1; weight <= 50; weight++) {
      String text = PAIR + "claim c by a weight " + weight + "; claim d by b weight 2;";
      Check.same("a claim that is in", score(text, 0), weight);
      Check.same("not the other's", score(text, 1), 2);
      Check.same("a claim that is out", score(text + "attack x from d on c force 25;", 0), 0);
      Check.same("an open claim " + weight, score(text + "attack x from d on c force 25; attack y from c on d force 1;", 0),
          weight / 2);
    }
    Check.same("each open one is halved", score(PAIR + "claim c by a weight 9; claim d by b; claim e by a weight 9;"
        + "attack x from c on d; attack y from d on c; attack z from d on e;", 0), 8);
    Check.same("two that are in", score(PAIR + "claim c by a weight 9; claim d by a weight 8;", 0), 17);
  }

  /** "and the forces of all supports for it that are in"; "for each own support that is in 1". */
  private static void scoresOfSupports() {
    String text = PAIR + "claim c by a weight 20; claim d by b weight 30;";
    Check.same("an own support", score(text + "support s from c for c force 7;", 0), 28);
    Check.same("another's support", score(text + "support s from d for c force 7;", 0), 27);
    Check.same("for another's claim", score(text + "support s from c for d force 7;", 0), 21);
    Check.same("that gets its force", score(text + "support s from c for d force 7;", 1), 37);
    Check.same("two supports", score(text + "support s from d for c force 7; support t from c for c force 1;", 0), 29);
    Check.same("a conceded support", score(text + "support s from d for c force 7; concede s;", 0), 20);
    Check.same("an own conceded support", score(text + "support s from c for c force 7; concede s;", 0), 19);
    Check.same("a support that is out", score(text + "support s from d for c force 7; attack x from c on s force 7;", 0), 23);
    Check.same("a support for a support", score(text + "support s from d for c force 7; support t from c for s force 9;", 0),
        28);
    Check.same("its speaker", score(text + "support s from d for c force 7; support t from c for s force 9;", 1), 31);
    Check.same("a support for an attack", score(text + "attack x from d on c force 9; support t from c for x force 9;", 1), 30);
    String open = text + "attack x from c on d force 25; attack y from d on c force 25;";
    Check.same("an open claim's support", score(open + "claim e by a weight 1; support s from e for c force 7;", 0), 12);
    Check.same("an open support", score(open + "claim e by a weight 1; support s from c for e force 7;", 0), 11);
    Check.same("a support for what is out", score(text + "support s from d for c force 7; concede c;", 0), -1);
    Check.same("its speaker's 1", score(text + "support s from d for c force 7; concede c;", 1), 31);
  }

  /** "for each own attack that is in and strong enough half its force". */
  private static void scoresOfAttacks() {
    for (int force = 1; force <= 50; force++) {
      String text = PAIR + "claim c by a weight 1; claim d by b weight 20; attack x from c on d force " + force + ";";
      Check.same("an attack with " + force, score(text, 0), 1 + (force < 10 ? 0 : force / 2));
      Check.same("a conceded attack with " + force, score(text + "concede x;", 0), 0);
      Check.same("for the other " + force, score(text, 1), force < 10 ? 20 : 0);
    }
    String two = PAIR + "claim c by a weight 1; claim d by b weight 2; claim e by b weight 2;";
    Check.same("each one is halved", score(two + "attack x from c on d force 5; attack y from c on e force 5;", 0), 5);
    Check.same("an open attack", score(two + "attack x from c on d force 8; attack y from d on x force 8;", 0), 1);
    String attacked = two + "attack y from c on e force 8; attack w from d on y force 8;";
    Check.same("an attack that is out", score(attacked, 0), 1);
    Check.same("an attack on an attack", score(attacked, 1), 8);
  }

  /** "for each own item that is conceded 1 less". */
  private static void scoresOfConceded() {
    String text = PAIR + "claim c by a weight 4; claim d by b; support s from c for d; attack x from c on d;";
    Check.same("none", score(text, 0), 7);
    Check.same("a support", score(text + "concede s;", 0), 5);
    Check.same("an attack", score(text + "concede x;", 0), 4);
    Check.same("a claim, which takes along what comes from it", score(text + "concede c;", 0), -1);
    Check.same("all", score(text + "concede s; concede x; concede c;", 0), -3);
    Check.same("not the other's", score(text + "concede d;", 0), 7);
    Check.same("recalled", score(text + "concede s; recall s;", 0), 7);
  }

  /** "a minute (60) of time left each 1". */
  private static void minutes() {
    for (int time : new int[] {0, 1, 59, 60, 61, 119, 120, 3599, 3600}) {
      DebateHall hall = Check.hall("speaker a time " + time + ";");
      Check.same("minutes of " + time, hall.speaker(0, 1), time / 60);
      hall.give(0, 60);
      Check.same("and one more", hall.speaker(0, 1), time / 60 + 1);
    }
    DebateHall hall = Check.hall("speaker a time 59;");
    Check.same("give the 60th", hall.give(0, 1) * 10 + hall.speaker(0, 1), 601);
    Check.same("60 less 2 for concede", Check.hall("speaker a time 72; claim c by a weight 1; concede c;").speaker(0, 1), -1);
  }

  /** "less the greatest score of the others; just the own score, if there are none". */
  private static void leads() {
    Check.same("alone", Check.hall("speaker a time 120;").speaker(0, 2), 2);
    Check.same("alone with 0", Check.hall("speaker a time 0;").speaker(0, 2), 0);
    Check.same("alone with less", Check.hall("speaker a time 22; claim c by a; concede c;").speaker(0, 2), -1);
    Check.same("with another of 0", Check.hall("speaker a time 120; speaker b time 0;").speaker(0, 2), 2);
    Check.same("the other", Check.hall("speaker a time 120; speaker b time 0;").speaker(1, 2), -2);
    Check.same("the same scores", Check.hall("speaker a; speaker b;").speaker(1, 2), 0);
    DebateHall below = Check.hall("speaker a time 22; speaker b time 48; speaker p time 74; claim c by a; claim d by b;"
        + "claim d2 by b; claim e by p; claim e2 by p; claim e3 by p; concede c; concede d; concede d2; concede e; concede e2; concede e3;");
    int[] scores = {-1, -2, -3};
    int[] leads = {1, -1, -2};
    for (int speaker = 0; speaker < 3; speaker++) {
      Check.same("score " + speaker, below.speaker(speaker, 1), scores[speaker] + below.speaker(speaker, 0) / 60);
      Check.same("lead " + speaker, below.speaker(speaker, 2), leads[speaker]);
    }
    DebateHall six = Check.hall("speaker a time 60; speaker b time 120; speaker p time 360; speaker q time 240; speaker r time 300;"
        + "speaker s time 360;");
    int[] due = {-5, -4, 0, -2, -1, 0};
    for (int speaker = 0; speaker < 6; speaker++) {
      Check.same("lead " + speaker + " of six", six.speaker(speaker, 2), due[speaker]);
    }
  }

  /** "what is not 0 to 11". */
  private static void counts() {
    DebateHall empty = new DebateHall();
    DebateHall hall = Check.hall(PAIR + "claim c by a; claim d by b; claim e by b; attack x from c on d; attack y from d on c;"
        + "support s from e for e; support t from e for c; support u from d for e; support v from e for e; concede v; concede s;");
    Check.same("bytes of the paper", hall.sheet(), 9 + 9 + 7 + 9 + 9 + 8 + 7 + 9 + 8);
    Check.put(hall, "speaker");
    int[] due = {2, 9, 3, 2, 4, 2, 2, 5, 2, 2, 7, 75};
    for (int what = 0; what < 12; what++) {
      Check.same("count " + what, hall.count(what), due[what]);
      Check.same("count " + what + " of a new hall", empty.count(what), 0);
    }
    for (int what : new int[] {-1, 12, 13, Integer.MIN_VALUE, Integer.MAX_VALUE}) {
      Check.outOfBounds("count " + what, () -> hall.count(what));
      Check.outOfBounds("count " + what + " of a new hall", () -> empty.count(what));
    }
  }

  /** "if there is no such speaker, or what is not 0 to 6". */
  private static void speakerFacts() {
    DebateHall hall = Check.hall("speaker a time 119; speaker b time 60; claim c by a; claim d by b; claim e by a;"
        + "attack x from c on d; support s from c for e; support t from e for e; concede t; concede e; concede s;");
    int[][] due = {{43, 9, 9, 2, 1, 2, 3}, {40, 0, -9, 1, 0, 0, 0}};
    for (int speaker : new int[] {0, 1}) {
      for (int what = 0; what < 7; what++) {
        Check.same("speaker " + speaker + " " + what, hall.speaker(speaker, what), due[speaker][what]);
      }
      for (int what : new int[] {-1, 7, 8, Integer.MIN_VALUE, Integer.MAX_VALUE}) {
        Check.outOfBounds("speaker " + speaker + " " + what, () -> hall.speaker(speaker, what));
      }
    }
    for (int speaker : new int[] {-1, 2, 3, 6, Integer.MIN_VALUE, Integer.MAX_VALUE}) {
      for (int what = -1; what < 8; what++) {
        int one = what;
        Check.outOfBounds("speaker " + speaker + " " + what, () -> hall.speaker(speaker, one));
      }
    }
    Check.outOfBounds("the first speaker of a new hall", () -> new DebateHall().speaker(0, 0));
  }

  /** "if there is no such item, or what is not 0 to 10". */
  private static void itemFacts() {
    DebateHall hall = Check.hall(PAIR
        + "claim c by a weight 11; claim d by b; attack x from d on c force 5; attack y from d on c force 6;"
        + "support s from c for c force 50; support t from d for c; attack z from c on d; concede z;");
    int[][] due = {{0, 0, 11, -1, -1, 2, 4, 0, 0, 2, 2}, {0, 1, 10, -1, -1, 1, 2, 0, 0, 1, 0}, {1, 1, 5, 1, 0, 1, 3, 0, 0, 0,
        0},
        {1, 1, 6, 1, 0, 1, 3, 0, 1, 0, 0}, {2, 0, 50, 0, 0, 2, 5, 0, 0, 0, 0}, {2, 1, 5, 1, 0, 1, 3, 0, 0, 0, 0},
        {1, 0, 5, 0, 1, 2, 1, 1, 1, 0, 0}};
    for (int item = 0; item < due.length; item++) {
      int one = item;
      for (int what = 0; what < 11; what++) {
        Check.same("item " + item + " " + what, hall.item(item, what), due[item][what]);
      }
      for (int what : new int[] {-1, 11, 12, Integer.MIN_VALUE, Integer.MAX_VALUE}) {
        Check.outOfBounds("item " + item + " " + what, () -> hall.item(one, what));
      }
    }
    for (int item : new int[] {-1, 7, 8, 40, 64, Integer.MIN_VALUE, Integer.MAX_VALUE}) {
      for (int what = -1; what < 12; what++) {
        int one = what;
        Check.outOfBounds("item " + item + " " + what, () -> hall.item(item, one));
      }
    }
    Check.outOfBounds("the first item of a new hall", () -> new DebateHall().item(0, 0));
    Check.outOfBounds("the first item with speakers only", () -> Check.hall(PAIR).item(0, 0));
  }
}
