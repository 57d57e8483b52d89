/** Promises 6 to 8: what stands, the scores and leads, and how count, speaker and item tell them. */
public final class StandingTest {
  /** c and e are of a, d and f of b. */
  private static final String FOUR = "speaker a time 600; speaker b time 600;"
      + "claim c by a weight 20; claim d by b weight 9; claim e by a; claim f by b;";

  public static void main(String[] args) {
    strongEnough();
    rounds();
    circles();
    conceded();
    scores();
    leads();
    counts();
    speakerFacts();
    itemFacts();
    Check.end("StandingTest");
  }

  private static String facts(DebateHall hall, int what) {
    StringBuilder text = new StringBuilder();
    for (int item = 0; item < hall.count(1); item++) {
      text.append(item == 0 ? "" : " ").append(hall.item(item, what));
    }
    return text.toString();
  }

  private static void strongEnough() {
    DebateHall hall = Check.hall(FOUR + "attack x1 from d on c force 9; attack x2 from d on c force 10;"
        + "attack x3 from c on d force 4; attack x4 from c on d force 5; attack x5 from c on x2 force 9;"
        + "attack x6 from c on x2 force 10; support s from d for d force 7; attack x7 from c on s force 6;"
        + "attack x8 from c on s force 7; attack x9 from d on x8 force 50;");
    Check.same("strong enough", facts(hall, 8), "0 0 0 0 0 1 0 1 0 1 0 0 1 1");
  }

  private static void rounds() {
    DebateHall hall = Check.hall(FOUR + "attack x from c on d; attack y from d on e; attack z from f on e;");
    Check.same("in and out in rounds", facts(hall, 5), "1 2 2 1 1 2 1");
    Check.same("the rounds", facts(hall, 6), "1 3 3 1 2 4 2");
    Check.same("rounds that found something", hall.count(9), 4);
    hall = Check.hall(FOUR + "attack x from c on d force 4; support s from d for c; attack y from c on s force 4;");
    Check.same("weak attacks do nothing", facts(hall, 5), "1 1 1 1 1 1 1");
    Check.same("a source is in first", facts(hall, 6), "1 1 1 1 2 2 2");
    hall = Check.hall(FOUR + "attack x from c on f; attack y from d on x; support s from f for f;");
    Check.same("an attack is attacked", facts(hall, 5), "1 1 1 1 2 1 1");
    Check.same("rounds of it", facts(hall, 6), "1 1 1 4 3 2 5");
    Check.same("rounds of no items", Check.hall("speaker a;").count(9), 0);
    DebateHall two = Check.hall("speaker a; speaker b; claim c by a; claim d by b; attack x from c on d;");
    Check.same("rounds before a circle", facts(two, 6) + " of " + two.count(9), "1 3 2 of 3");
    Check.tell(two, "attack y from d on c;");
    Check.same("no rounds then", facts(two, 6) + " of " + two.count(9), "0 0 0 0 of 0");
    mostRounds();
  }

  /** Each claim attacks the next one; each item is found in a round of its own. */
  private static void mostRounds() {
    DebateHall hall = Check.hall("speaker a time 900; speaker b time 900; claim c1 by a weight 1;");
    for (int n = 2; n <= 20; n++) {
      Check.tell(hall, "claim c" + n + (n % 2 == 0 ? " by b" : " by a") + " weight 1;"
          + "attack x" + n + " from c" + (n - 1) + " on c" + n + " force 1;");
    }
    Check.tell(hall, "support s from c20 for c20;");
    Check.same("40 rounds", hall.count(9), 40);
    Check.same("the last one's round", hall.item(39, 6), 40);
    Check.same("the last one is out", hall.item(39, 5), 2);
  }

  private static void circles() {
    DebateHall hall = Check.hall(FOUR + "attack x from e on f; attack y from f on e; attack z from f on c force 10;"
        + "support s from c for d; support t from d for c;");
    Check.same("open in a circle", facts(hall, 5), "0 1 0 0 0 0 0 0 1");
    Check.same("open ones have round 0", facts(hall, 6), "0 1 0 0 0 0 0 0 2");
    Check.same("how many are open", hall.count(7), 7);
    Check.same("breaking the circle", Check.tell(hall, "concede f;"), 0);
    Check.same("then", facts(hall, 5), "1 1 1 2 1 2 2 1 1");
    Check.same("rounds then", facts(hall, 6), "3 1 3 1 4 2 2 4 2");
  }

  private static void conceded() {
    DebateHall hall = Check.hall(FOUR + "attack x from c on d; attack y from d on c force 50; concede x;");
    Check.same("conceded ones are out", facts(hall, 5), "2 1 1 1 2 1");
    Check.same("rounds with them", facts(hall, 6), "4 2 1 1 1 3");
    Check.tell(hall, "recall x; concede d; concede y; recall d;");
    Check.same("recalled and conceded", facts(hall, 5), "1 2 1 1 1 2");
    Check.same("which are conceded", facts(hall, 7), "0 0 0 0 0 1");
  }

  private static String scores(DebateHall hall) {
    StringBuilder text = new StringBuilder();
    for (int speaker = 0; speaker < hall.count(0); speaker++) {
      text.append(speaker == 0 ? "" : " ").append(hall.speaker(speaker, 1));
    }
    return text.toString();
  }

  private static void scores() {
    Check.same("a minute each", scores(Check.hall("speaker a time 59; speaker b time 60; speaker c time 119;"
        + "speaker d time 120; speaker e; speaker f time 3600;")), "0 1 1 2 5 60");
    String two = "speaker a time 100; speaker b time 100; claim c by a weight 15; claim d by b weight 8;";
    Check.same("claims that are in", scores(Check.hall(two)), "16 9");
    Check.same("an attack that is in", scores(Check.hall(two + "attack x from c on d force 7;")), "19 1");
    Check.same("a weak attack", scores(Check.hall(two + "attack x from c on d force 3;")), "16 9");
    Check.same("half the weight of open ones", scores(Check.hall(two + "attack x from c on d force 9;"
        + "attack y from d on c force 9;")), "8 5");
    Check.same("open attacks count nothing, conceded ones 1 less", scores(Check.hall(two
        + "attack x from c on d force 9; attack y from d on c force 9; concede y;")), "20 0");
    Check.same("supports", scores(Check.hall(two + "support s from c for d force 7; support t from d for d force 6;")),
        "17 23");
    Check.same("supports for what is out", scores(Check.hall(two + "support s from c for d force 7; concede d;")),
        "17 0");
    Check.same("supports that are out", scores(Check.hall(two + "support s from d for c force 7; concede d;"
        + "support t from c for s force 2;")), "17 0");
    Check.same("supports for open claims", scores(Check.hall(two + "attack x from c on d force 9; concede x;"
        + "attack y from d on c force 9; recall x; support s from c for c force 3;")), "7 5");
    Check.same("supports for attacks", scores(Check.hall(two + "attack x from c on d force 4;"
        + "support s from c for x force 20;")), "18 1");
  }

  private static void leads() {
    Check.same("a lead alone", Check.hall("speaker a;").speaker(0, 2), 5);
    DebateHall hall = Check.hall("speaker a time 660; speaker b time 120; speaker c time 360;");
    Check.same("the first lead", hall.speaker(0, 2), 5);
    Check.same("the second lead", hall.speaker(1, 2), -9);
    Check.same("the third lead", hall.speaker(2, 2), -5);
    hall = Check.hall("speaker a time 40; speaker b time 40; claim c by a; claim d by b; concede c; concede d;");
    Check.same("scores below 0", scores(hall), "-1 -1");
    Check.same("the lead of them", hall.speaker(0, 2), 0);
    Check.tell(hall, "recall c; concede c;");
    Check.same("less than below 0", hall.speaker(1, 2), 0);
    hall = Check.hall("speaker a time 40; speaker b time 20; claim c by a; concede c;");
    Check.same("less a score below 0", hall.speaker(1, 2), 1);
    Check.same("less a score of 0", hall.speaker(0, 2), -1);
  }

  private static void counts() {
    DebateHall hall = Check.hall(FOUR + "attack x from c on d; attack y from e on f; attack z from f on e;"
        + "support s from d for d; concede d; concede s;");
    hall.sheet();
    hall.feed(0, 0, 0, 0, 0);
    int[] due = {2, 8, 4, 3, 1, 2, 2, 4, 2, 2, 20, 66};
    for (int what = 0; what < 12; what++) {
      Check.same("count " + what, hall.count(what), due[what]);
    }
    for (int what : new int[] {-1, 12, Integer.MIN_VALUE, Integer.MAX_VALUE}) {
      Check.outOfBounds("count " + what, () -> hall.count(what));
    }
  }

  private static void speakerFacts() {
    DebateHall hall = Check.hall(FOUR + "claim g by a; attack x from c on d; attack y from c on f;"
        + "support s from c for c; support t from d for d; concede c; concede s; concede x; speaker z;");
    int[][] due = {{498, 25, 8, 3, 2, 1, 3}, {561, 33, 8, 2, 0, 1, 0}, {300, 5, -28, 0, 0, 0, 0}};
    due[0][0] = 600 - 30 - 20 - 20 - 10 - 10 - 10 - 6;
    due[0][1] = due[0][0] / 60 + 10 + 10 - 3;
    due[1][0] = 600 - 19 - 20 - 10;
    due[1][1] = due[1][0] / 60 + 9 + 10 + 5 + 1;
    due[0][2] = due[0][1] - due[1][1];
    due[1][2] = due[1][1] - due[0][1];
    due[2][2] = 5 - due[1][1];
    for (int speaker = 0; speaker < 3; speaker++) {
      int one = speaker;
      for (int what = 0; what < 7; what++) {
        Check.same("speaker " + speaker + " " + what, hall.speaker(speaker, what), due[speaker][what]);
      }
      Check.outOfBounds("speaker " + speaker + " -1", () -> hall.speaker(one, -1));
      Check.outOfBounds("speaker " + speaker + " 7", () -> hall.speaker(one, 7));
    }
    Check.outOfBounds("speaker -1", () -> hall.speaker(-1, 0));
    Check.outOfBounds("speaker 3", () -> hall.speaker(3, 0));
    Check.outOfBounds("speaker of a new hall", () -> new DebateHall().speaker(0, 0));
    Check.outOfBounds("speaker " + Integer.MAX_VALUE, () -> hall.speaker(Integer.MAX_VALUE, 0));
  }

  private static void itemFacts() {
    DebateHall hall = Check.hall(FOUR + "attack x from c on d force 8; attack y from d on x; support s from d for x;"
        + "support t from e for d force 50; attack z from c on s; attack v from e on d force 1; concede e;");
    int[][] due = {
      {0, 0, 20, -1, -1, 1, 1, 0, 0, 0, 0}, {0, 1, 9, -1, -1, 2, 3, 0, 0, 2, 1}, {0, 0, 10, -1, -1, 2, 1, 1, 0, 0, 0},
      {0, 1, 10, -1, -1, 1, 1, 0, 0, 0, 0}, {1, 0, 8, 0, 1, 1, 2, 0, 1, 1, 1}, {1, 1, 5, 1, 4, 2, 4, 0, 0, 0, 0},
      {2, 1, 5, 1, 4, 2, 3, 0, 0, 1, 0}, {2, 0, 50, 2, 1, 2, 2, 0, 0, 0, 0}, {1, 0, 5, 0, 6, 1, 2, 0, 1, 0, 0},
      {1, 0, 1, 2, 1, 2, 2, 0, 0, 0, 0}};
    for (int item = 0; item < 10; item++) {
      int one = item;
      for (int what = 0; what < 11; what++) {
        Check.same("item " + item + " " + what, hall.item(item, what), due[item][what]);
      }
      Check.outOfBounds("item " + item + " -1", () -> hall.item(one, -1));
      Check.outOfBounds("item " + item + " 11", () -> hall.item(one, 11));
    }
    Check.outOfBounds("item -1", () -> hall.item(-1, 0));
    Check.outOfBounds("item 10", () -> hall.item(10, 0));
    Check.outOfBounds("item of a new hall", () -> new DebateHall().item(0, 0));
  }
}
