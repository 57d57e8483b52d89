/** Promises 9 to 22: the calls that ask what is, what would be, and the sheet. */
public final class CallsTest {
  /** c and e are of a, d and f of b. */
  private static final String FOUR = "speaker a time 600; speaker b time 600;"
      + "claim c by a weight 20; claim d by b weight 9; claim e by a; claim f by b;";

  public static void main(String[] args) {
    give();
    why();
    far();
    defends();
    leader();
    conceding();
    concede();
    advise();
    least();
    frees();
    sheet();
    share();
    digest();
    throwsChangeNothing();
    Check.end("CallsTest");
  }

  private static void give() {
    DebateHall hall = Check.hall("speaker a time 10; speaker b time 3600;");
    Check.same("give 1", hall.give(0, 1), 11);
    Check.same("give 3600", hall.give(1, 3600), 7200);
    Check.same("the time left", hall.speaker(1, 0), 7200);
    Check.same("the score then", hall.speaker(1, 1), 120);
    Check.outOfBounds("give -1", () -> hall.give(-1, 5));
    Check.outOfBounds("give 2", () -> hall.give(2, 5));
    Check.outOfBounds("give 2, with a wrong time", () -> hall.give(2, 0));
    Check.illegal("give 0", () -> hall.give(0, 0));
    Check.illegal("give -1", () -> hall.give(0, -1));
    Check.illegal("give 3601", () -> hall.give(0, 3601));
    Check.same("nothing was given", hall.speaker(0, 0), 11);
    Check.same("given time can be used", hall.give(0, 9) + Check.tell(hall, "claim c by a;"), 20);
    Check.same("and is used up", hall.speaker(0, 0), 0);
  }

  private static void why() {
    DebateHall hall = Check.hall(FOUR + "attack v from f on c force 9; attack w from e on f; attack x from d on c force 10;"
        + "attack y from d on c force 50; support s from c for c; concede c; concede d; concede s;");
    int[] conceded = {-2, -2, -1, 5, -3, -1, -3, -3, -2};
    for (int item = 0; item < 9; item++) {
      Check.same("why " + item, hall.why(item), conceded[item]);
    }
    Check.tell(hall, "recall d; recall s;");
    int[] attacked = {6, -1, -1, 5, -3, -1, -1, -1, -3};
    for (int item = 0; item < 9; item++) {
      Check.same("why " + item + " then", hall.why(item), attacked[item]);
    }
    DebateHall open = Check.hall(FOUR + "attack x from e on f; attack y from f on e;");
    Check.same("why of an open one", open.why(2), -1);
    Check.same("why of an open attack", open.why(4), -1);
    Check.same("why of an attack's target in the end", Check.hall(FOUR + "attack x from c on d; concede d;").why(1), 4);
    Check.outOfBounds("why -1", () -> hall.why(-1));
    Check.outOfBounds("why 9", () -> hall.why(9));
  }

  private static void far() {
    DebateHall hall = Check.hall(FOUR + "attack x from c on d; attack y from d on x; support s from d for y;"
        + "support t from c for s; support u from c for c;");
    int[] due = {0, 0, 0, 0, 1, 2, 3, 4, 1};
    for (int item = 0; item < 9; item++) {
      Check.same("far " + item, hall.far(item), due[item]);
    }
    Check.outOfBounds("far -1", () -> hall.far(-1));
    Check.outOfBounds("far 9", () -> hall.far(9));
    StringBuilder text = new StringBuilder("speaker a time 900; claim i0 by a;");
    for (int n = 1; n < 40; n++) {
      text.append("support i").append(n).append(" from i0 for i").append(n - 1).append(" force 1;");
    }
    Check.same("the farthest", Check.hall(text.toString()).far(39), 39);
  }

  private static void defends() {
    DebateHall hall = Check.hall(FOUR + "attack x from d on c force 10; attack y from e on x force 10;"
        + "attack w from f on c force 9; attack v from e on w force 9; attack u from e on x force 9;"
        + "support s from c for x force 50;");
    for (int item = 0; item < 10; item++) {
      for (int other = 0; other < 10; other++) {
        Check.same("defends " + item + " " + other, hall.defends(item, other), item == 5 && other == 0);
      }
    }
    Check.tell(hall, "concede y;");
    Check.same("what is out does not defend", hall.defends(5, 0), false);
    Check.outOfBounds("defends -1", () -> hall.defends(-1, 0));
    Check.outOfBounds("defends 10", () -> hall.defends(10, 0));
    Check.outOfBounds("defends, other -1", () -> hall.defends(0, -1));
    Check.outOfBounds("defends, other 10", () -> hall.defends(0, 10));
    DebateHall support = Check.hall(FOUR + "support s from d for c force 50; attack y from c on s force 50;");
    Check.same("against a support nothing is defended", support.defends(5, 0), false);
  }

  private static void leader() {
    Check.same("no leader", new DebateHall().leader(), -1);
    Check.same("one leader", Check.hall("speaker a time 0;").leader(), 0);
    Check.same("the greatest score", Check.hall("speaker a; speaker b time 360; speaker c time 359;").leader(), 1);
    Check.same("the smallest number", Check.hall("speaker a time 0; speaker b; speaker c;").leader(), 1);
    DebateHall below = Check.hall("speaker a time 20; speaker b time 40; speaker c time 22; claim d by b;"
        + "claim e by c; claim f by a; concede e;");
    Check.same("a leader of less", below.leader(), 0);
    DebateHall all = Check.hall("speaker a time 26; speaker b time 22; claim c by a; claim d by b; concede c; concede d;"
        + "recall c; concede c;");
    Check.same("all below 0", all.speaker(0, 1) + all.speaker(1, 1), -2);
    Check.same("the leader of them", all.leader(), 0);
  }

  private static void conceding() {
    DebateHall hall = Check.hall(FOUR + "attack x from d on c force 10;");
    long digest = hall.digest();
    Check.same("the lead as it is", hall.speaker(0, 2), 19 - 33);
    Check.same("conceding an attack, for the other", hall.conceding(4, 0), 39 - 27);
    Check.same("conceding an attack, for its speaker", hall.conceding(4, 1), 27 - 39);
    Check.same("conceding what is out", hall.conceding(0, 0), 18 - 33);
    Check.same("nothing is changed", hall.digest(), digest);
    Check.tell(hall, "concede x;");
    Check.same("what is conceded stays so", hall.conceding(4, 0), hall.speaker(0, 2));
    Check.same("alone", Check.hall("speaker a time 20; claim c by a;").conceding(0, 0), -1);
    Check.outOfBounds("conceding -1", () -> hall.conceding(-1, 0));
    Check.outOfBounds("conceding 5", () -> hall.conceding(5, 0));
    Check.outOfBounds("conceding, speaker -1", () -> hall.conceding(0, -1));
    Check.outOfBounds("conceding, speaker 2", () -> hall.conceding(0, 2));
  }

  /** The attack p of a spoils the attack q of a third one, which would have saved the claim big of a. */
  private static String spoiling(int weight, int force) {
    return ("speaker a time 900; speaker b time 900; speaker e time 900; claim big by a weight " + weight
        + "; claim k by a weight 1; claim d by b; claim t by e; attack z from d on big force F;"
        + "attack q from t on z force F; attack p from k on q force F;").replace("F", "" + force);
  }

  private static void concede() {
    DebateHall hall = Check.hall(spoiling(50, 25));
    long digest = hall.digest();
    Check.same("the own attack that spoils", hall.concede(0), 6);
    Check.same("nothing for the others", hall.concede(1) + 10 * hall.concede(2), -11);
    Check.same("nothing is changed", hall.digest(), digest);
    Check.tell(hall, "concede p;");
    Check.same("what is conceded already", hall.concede(0), -1);
    String two = "attack r from t on p force 1; attack o from k on r force 1;";
    Check.same("of several the first", Check.hall(spoiling(2, 1) + two).concede(0), 6);
    Check.same("what gains nothing", Check.hall(spoiling(1, 1) + two).concede(0), -1);
    Check.same("nothing to concede", Check.hall("speaker a; speaker b;").concede(0), -1);
    Check.same("what only loses", Check.hall(FOUR + "attack x from c on d;").concede(0), -1);
    Check.outOfBounds("concede -1", () -> hall.concede(-1));
    Check.outOfBounds("concede 3", () -> hall.concede(3));
    Check.outOfBounds("concede of a new hall", () -> new DebateHall().concede(0));
  }

  private static void advise() {
    DebateHall hall = Check.hall(FOUR);
    long digest = hall.digest();
    Check.same("the weightiest that the force reaches", hall.advise(0, 5), 3);
    Check.same("with more force", hall.advise(1, 10), 0);
    Check.same("with less", hall.advise(1, 9), 2);
    Check.same("with too little", hall.advise(0, 4), -1);
    Check.same("nothing is changed", hall.digest(), digest);
    DebateHall same = Check.hall("speaker a; speaker b; claim c by a; claim d by b; claim e by b;");
    Check.same("of several the first", same.advise(0, 50), 1);
    DebateHall attacks = Check.hall("speaker a; speaker b; claim c by a weight 20; claim d by b weight 50; claim f by b;"
        + "attack x from d on c force 10;");
    Check.same("an attack is attacked", attacks.advise(0, 10), 3);
    Check.same("its source is attacked", attacks.advise(0, 25), 1);
    Check.same("another claim is attacked", attacks.advise(0, 9), 2);
    Check.same("nothing in reach", attacks.advise(0, 4), -1);
    Check.same("with the least force", Check.hall("speaker a; speaker b; claim c by b weight 2;").advise(0, 1), 0);
    DebateHall weak = Check.hall("speaker a; speaker b; claim c by a weight 20; claim d by b weight 50;"
        + "attack x from d on c force 9;");
    Check.same("what counts nothing is struck for nothing", weak.advise(0, 9), -1);
    DebateHall own = Check.hall(spoiling(2, 1));
    Check.same("the own attack that spoils is not for advice", own.advise(0, 1), 4);
    Check.same("nor is anything without others", Check.hall("speaker a; claim c by a; claim d by a; concede c;")
        .advise(0, 50), -1);
    DebateHall third = Check.hall("speaker a; speaker b; speaker c time 3600; claim d by a; claim e by b;");
    Check.same("nothing when a third one leads", third.advise(0, 50), -1);
    Check.same("what is out already", Check.hall("speaker a; speaker b; claim d by b; concede d;").advise(0, 50), -1);
    Check.outOfBounds("advise -1", () -> hall.advise(-1, 5));
    Check.outOfBounds("advise 2", () -> hall.advise(2, 5));
    Check.outOfBounds("advise 2, with a wrong force", () -> hall.advise(2, 0));
    Check.illegal("advise with 0", () -> hall.advise(0, 0));
    Check.illegal("advise with 51", () -> hall.advise(0, 51));
  }

  private static void least() {
    DebateHall hall = Check.hall("speaker a time 3600; speaker b time 3600; claim c by a weight 1; claim d by b weight 2;"
        + "claim e by a weight 49; claim f by b weight 50; attack x from c on d force 1; attack y from d on c force 50;"
        + "support s from c for d force 33;");
    int[] due = {1, 1, 25, 25, 1, 50, 33};
    for (int item = 0; item < 7; item++) {
      Check.same("least " + item, hall.least(item), due[item]);
    }
    Check.outOfBounds("least -1", () -> hall.least(-1));
    Check.outOfBounds("least 7", () -> hall.least(7));
  }

  private static void frees() {
    DebateHall hall = Check.hall(FOUR + "attack x from d on c force 10; attack y from f on c force 10;"
        + "attack z from f on e; support s from c for c;");
    long digest = hall.digest();
    int[] due = {204, 0, 4, 0, 0, 0, 0, 204};
    for (int item = 0; item < 8; item++) {
      Check.same("frees " + item, hall.frees(item), due[item]);
    }
    Check.same("nothing is changed", hall.digest(), digest);
    Check.same("of three attackers", Check.hall(FOUR + "claim g by b; attack x from d on c force 10;"
        + "attack y from f on c force 10; attack z from g on c force 10;").frees(0), -1);
    Check.same("what is conceded", Check.hall(FOUR + "concede c;").frees(0), -1);
    Check.same("of open ones", Check.hall(FOUR + "attack x from e on f; attack y from f on e;").frees(2), 4);
    Check.outOfBounds("frees -1", () -> hall.frees(-1));
    Check.outOfBounds("frees 8", () -> hall.frees(8));
    Check.same("by the first item", Check.hall(FOUR + "attack x from c on d;").frees(1), 1);
    Check.same("by the first item and another", Check.hall(FOUR + "attack x from c on d; attack y from e on d;").frees(1), 103);
    outOnesAreTriedToo();
  }

  /**
   * t is out while d is in. Conceding d makes an end of both its attacks on c, but not of that of t,
   * which would be in then: t, out as it is, has to be conceded too.
   */
  private static void outOnesAreTriedToo() {
    DebateHall hall = Check.hall("speaker a time 900; speaker b time 900; speaker e time 900; claim c by a; claim d by b;"
        + "claim t by e; attack z from d on c; attack w from d on c;"
        + "attack y from d on t; attack x from t on c;");
    Check.same("t is out", hall.item(2, 5), 2);
    Check.same("frees by one that is out", hall.frees(0), 203);
  }

  private static void sheet() {
    DebateHall hall = new DebateHall();
    Check.outOfBounds("byteAt of an empty paper", () -> hall.byteAt(0));
    Check.same("a sheet of nothing", hall.sheet(), 0);
    Check.tell(hall, "speaker ann; speaker longname; claim c by ann; claim longitem by longname; attack x from c on longitem;"
        + "concede c; attack y from c on longitem; concede y; claim d by ann; attack z from d on longitem;"
        + "attack w from longitem on d;");
    Check.same("the paper waits", hall.count(11), 0);
    String due = "c ann out\nlongitem longname open\nx ann out\ny ann out\nd ann open\nz ann open\nw longname open\n";
    Check.same("the paper", Check.paper(hall), due);
    Check.same("its bytes", hall.count(11), due.length());
    Check.outOfBounds("byteAt -1", () -> hall.byteAt(-1));
    Check.outOfBounds("byteAt behind it", () -> hall.byteAt(due.length()));
    Check.tell(hall, "concede longitem; speaker longname;");
    Check.tell(hall, "recall c;");
    Check.same("the paper stays", hall.count(11), due.length());
    Check.same("another sheet", Check.paper(hall).substring(0, 9), "c ann in\n");
    longestSheet();
  }

  private static void longestSheet() {
    StringBuilder first = new StringBuilder("speaker speaker1 time 3600;");
    StringBuilder then = new StringBuilder("speaker other;claim otheritm by other weight 1;");
    StringBuilder due = new StringBuilder();
    for (int n = 11; n < 50; n++) {
      (n < 30 ? first : then).append("claim longna").append(n).append(" by speaker1 weight 1;");
    }
    DebateHall hall = Check.hall(first.toString());
    Check.same("the second text", Check.tell(hall, then.toString()), 0);
    for (int n = 11; n < 50; n++) {
      due.append(n == 30 ? "otheritm other in\n" : "").append("longna").append(n).append(" speaker1 in\n");
    }
    Check.same("a sheet of 40 items", Check.paper(hall), due.toString());
    DebateHall open = Check.hall("speaker speaker1 time 900; speaker speaker2; claim claim111 by speaker1;"
        + "claim claim222 by speaker2; attack attack11 from claim111 on claim222; attack attack22 from claim222 on claim111;");
    for (int n = 11; n < 47; n++) {
      Check.tell(open, "support suppor" + n + " from claim111 for claim111;");
    }
    Check.same("the longest sheet", open.sheet(), 920);
    Check.same("its last bytes", Check.paper(open).substring(897), "suppor46 speaker1 open\n");
  }

  private static void share() {
    Check.same("a share of nothing", new DebateHall().share(), 0.0);
    Check.same("a share without claims", Check.hall("speaker a;").share(), 0.0);
    Check.same("all", Check.hall(FOUR).share(), 1.0);
    Check.same("some", Check.hall(FOUR + "claim g by a; claim h by b; attack x from c on d; concede e;").share(), 4.0 / 6);
    Check.same("only claims count", Check.hall(FOUR + "support s from c for c; concede s; concede c;").share(), 0.75);
    Check.same("none", Check.hall("speaker a; claim c by a; concede c;").share(), 0.0);
  }

  private static void digest() {
    long due = 719;
    for (int n = 0; n < 12; n++) {
      due *= 31;
    }
    Check.same("digest of a new hall", new DebateHall().digest(), due);
    DebateHall hall = Check.hall(FOUR + "attack x from d on c force 10; support s from c for d; concede f;");
    hall.sheet();
    hall.feed(1, 2, 3, 4, 5);
    due = 719;
    for (int what = 0; what < 12; what++) due = due * 31 + hall.count(what);
    for (int speaker = 0; speaker < 2; speaker++) {
      for (int what = 0; what < 7; what++) due = due * 31 + hall.speaker(speaker, what);
    }
    for (int item = 0; item < 6; item++) {
      for (int what = 0; what < 11; what++) due = due * 31 + hall.item(item, what);
      due = (due * 31 + hall.why(item)) * 31 + hall.far(item);
    }
    for (int index = 0; index < hall.count(11); index++) due = due * 31 + hall.byteAt(index);
    Check.same("digest", hall.digest(), due);
    Check.same("digest once more", hall.digest(), due);
  }

  private static void throwsChangeNothing() {
    DebateHall hall = Check.hall(FOUR + "attack x from d on c force 10;");
    hall.sheet();
    for (int n = 0; n < 100; n++) hall.feed(n, n, n, n, n);
    long digest = hall.digest();
    Check.gives("feed", () -> hall.feed(1, 2, 3, 4, 5), "IllegalStateException");
    int[] wrong = {-1, 99, Integer.MIN_VALUE, Integer.MAX_VALUE, 63, 64, 40, 41, -64};
    for (int n : wrong) {
      Check.illegal("trim", () -> hall.trim(n == 99 || n == 63 || n == 64 || n == 40 || n == 41 ? 2001 : n));
      Check.outOfBounds("count", () -> hall.count(n));
      Check.outOfBounds("speaker", () -> hall.speaker(n, 0));
      Check.outOfBounds("speaker, what", () -> hall.speaker(0, n));
      Check.outOfBounds("item", () -> hall.item(n, 0));
      Check.outOfBounds("item, what", () -> hall.item(0, n));
      Check.outOfBounds("give", () -> hall.give(n, 5));
      Check.outOfBounds("why", () -> hall.why(n));
      Check.outOfBounds("far", () -> hall.far(n));
      Check.outOfBounds("defends", () -> hall.defends(n, 0));
      Check.outOfBounds("defends, other", () -> hall.defends(0, n));
      Check.outOfBounds("conceding", () -> hall.conceding(n, 0));
      Check.outOfBounds("conceding, speaker", () -> hall.conceding(0, n));
      Check.outOfBounds("concede", () -> hall.concede(n));
      Check.outOfBounds("advise", () -> hall.advise(n, 5));
      Check.outOfBounds("least", () -> hall.least(n));
      Check.outOfBounds("frees", () -> hall.frees(n));
      Check.outOfBounds("byteAt", () -> hall.byteAt(n == 40 || n == 41 || n == 63 || n == 64 ? 99 : n));
    }
    Check.same("digest after all that threw", hall.digest(), digest);
  }
}
