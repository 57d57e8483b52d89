/** Promises 1 to 5: a new object, feed, trim, tell, errorAt. */
public final class LanguageTest {
  private static final String TWO = "speaker a; speaker b; claim c by a; claim d by b; ";

  public static void main(String[] args) {
    newObject();
    tape();
    tokens();
    grammar();
    depth();
    limitOfTokens();
    names();
    fullHall();
    ranges();
    conceding();
    timeOfLines();
    testsOfLines();
    orderOfErrors();
    allOrNothing();
    Check.end("LanguageTest");
  }

  private static void newObject() {
    DebateHall hall = new DebateHall();
    for (int what = 0; what < 12; what++) {
      Check.same("count " + what + " of a new hall", hall.count(what), 0);
    }
    Check.same("errorAt of a new hall", hall.errorAt(), -1);
    Check.same("tell an empty tape", hall.tell(), 0);
    Check.same("errorAt then", hall.errorAt(), -1);
  }

  private static void tape() {
    DebateHall hall = new DebateHall();
    Check.same("feed", hall.feed(0x73706561, 0x6b657220, 0x613b2020, 0x20202020, 0x20202020), 20);
    Check.same("bytes of the tape", hall.count(10), 20);
    Check.same("tell what was fed", hall.tell(), 0);
    Check.same("a speaker was told", hall.count(0), 1);
    Check.same("the tape is empty then", hall.count(10), 0);
    for (int n = 1; n <= 100; n++) {
      Check.same("feed " + n, hall.feed(-1, -1, -1, -1, -1), 20 * n);
    }
    Check.gives("feed too much", () -> hall.feed(0, 0, 0, 0, 0), "IllegalStateException");
    Check.same("bytes of the full tape", hall.count(10), 2000);
    Check.illegal("trim below 0", () -> hall.trim(-1));
    Check.illegal("trim to more", () -> hall.trim(2001));
    Check.same("trim to as much", hall.trim(2000), 2000);
    Check.same("trim by one", hall.trim(1999), 1999);
    Check.gives("feed with room for 1", () -> hall.feed(0, 0, 0, 0, 0), "IllegalStateException");
    Check.same("trim by 19", hall.trim(1981), 1981);
    Check.gives("feed with room for 19", () -> hall.feed(0, 0, 0, 0, 0), "IllegalStateException");
    Check.same("trim by 20", hall.trim(1980), 1980);
    Check.same("feed with room for 20", hall.feed(0, 0, 0, 0, 0), 2000);
    Check.same("trim to nothing", hall.trim(0), 0);
    Check.same("bytes of the trimmed tape", hall.count(10), 0);
    Check.same("tell the trimmed tape", hall.tell(), 0);
    Check.illegal("trim an empty tape to 1", () -> hall.trim(1));
    Check.same("trim an empty tape to 0", hall.trim(0), 0);
    Check.put(hall, "speaker ?");
    Check.same("an error empties the tape too", hall.tell() + 10 * hall.count(10), 1);
  }

  private static void tokens() {
    Check.error("", "\n \n speaker\na\n;\n\n", 0, -1);
    Check.error("", "speaker a;speaker b;claim c by a weight 5;attack x from c on c;", 6, 61);
    Check.error("", "speaker time1 time 000020;speaker speakers;", 0, -1);
    Check.error("", "speaker a2345678;", 0, -1);
    Check.error("", "speaker a time 1claim c by a;", 1, 16);
    Check.errorAtBar("", "speaker |a23456789;", 1);
    Check.errorAtBar("", "speaker a time |1234567;", 1);
    Check.errorAtBar("", "speaker a time |0000001;", 1);
    Check.errorAtBar("", "speaker a time |123456;", 5);
    Check.errorAtBar("", "speaker |1a;", 1);
    Check.errorAtBar("", "speaker |A;", 1);
    Check.errorAtBar("", "speaker a|_b;", 1);
    Check.errorAtBar("", "speaker|\ta;", 1);
    Check.errorAtBar("", "speaker |\u0000;", 1);
    Check.errorAtBar("", "|\u00e4", 1);
    Check.errorAtBar("", "speaker a; |\u00ff;", 1);
    Check.errorAtBar("", "|speakera;", 1);
    Check.errorAtBar("", "speaker a |time5;", 1);
    String keywords = "speaker time claim by weight attack support from on for force if concede recall "
        + "in out open conceded not and or";
    for (String keyword : keywords.split(" ")) {
      Check.errorAtBar("", "speaker |" + keyword + ";", 1);
      Check.error("", "speaker " + keyword.substring(0, keyword.length() - 1) + "0;", 0, -1);
    }
  }

  private static void grammar() {
    Check.errorAtBar("", "|;", 1);
    Check.errorAtBar("", "|a", 1);
    Check.errorAtBar("", "|5", 1);
    Check.errorAtBar("", "speaker|", 1);
    Check.errorAtBar("", "speaker a  \n|", 1);
    Check.errorAtBar("", "speaker a;|;", 1);
    Check.errorAtBar("", "speaker a |a;", 1);
    Check.errorAtBar("", "speaker a time |a;", 1);
    Check.errorAtBar("", "speaker a |weight 5;", 1);
    Check.errorAtBar("", "speaker a time 5 |time 5;", 1);
    Check.errorAtBar(TWO, "claim e |from a;", 1);
    Check.errorAtBar(TWO, "claim e by |5;", 1);
    Check.errorAtBar(TWO, "claim e by a |force 5;", 1);
    Check.errorAtBar(TWO, "claim e by a |if in c;", 1);
    Check.errorAtBar(TWO, "attack x |by a;", 1);
    Check.errorAtBar(TWO, "attack x |on d from c;", 1);
    Check.errorAtBar(TWO, "attack x from c |for d;", 1);
    Check.errorAtBar(TWO, "support x from c |on d;", 1);
    Check.errorAtBar(TWO, "attack x from c on d |weight 5;", 1);
    Check.errorAtBar(TWO, "attack x from c on d if in c |force 5;", 1);
    Check.errorAtBar(TWO, "concede |;", 1);
    Check.errorAtBar(TWO, "concede c |d;", 1);
    Check.errorAtBar(TWO, "recall c|", 1);
    Check.errorAtBar(TWO, "attack x from c on d if|;", 1);
    Check.errorAtBar(TWO, "attack x from c on d if |c;", 1);
    Check.errorAtBar(TWO, "attack x from c on d if in |in;", 1);
    Check.errorAtBar(TWO, "attack x from c on d if in c |in d;", 1);
    Check.errorAtBar(TWO, "attack x from c on d if in c and|;", 1);
    Check.errorAtBar(TWO, "attack x from c on d if in c and |or in d;", 1);
    Check.errorAtBar(TWO, "attack x from c on d if |and in c;", 1);
    Check.errorAtBar(TWO, "attack x from c on d if [in c|;", 1);
    Check.errorAtBar(TWO, "attack x from c on d if [|];", 1);
    Check.errorAtBar(TWO, "attack x from c on d if in c|];", 1);
    Check.errorAtBar(TWO, "attack x from c on d if [in c]|];", 1);
    Check.errorAtBar(TWO, "attack x from c on d if in |[c];", 1);
    Check.error(TWO, "attack x from c on d if[in c]and not[out d or open c];", 0, -1);
    Check.error(TWO, "support x from c for d force 5 if in c and in d or conceded c;", 0, -1);
  }

  private static void depth() {
    String before = "attack x from c on d if ";
    Check.error(TWO, before + "[[[[[[in c]]]]]];", 0, -1);
    Check.error(TWO, before + "not not not not not not in c;", 0, -1);
    Check.error(TWO, before + "not [not [not [in c]]] and [[[[[[in c]]]]]];", 0, -1);
    Check.errorAtBar(TWO, before + "[[[[[[|[in c]]]]]]];", 1);
    Check.errorAtBar(TWO, before + "[[[[[[|not in c]]]]]];", 1);
    Check.errorAtBar(TWO, before + "not not not not not not |not in c;", 1);
    Check.errorAtBar(TWO, before + "not not not not not not |[in c];", 1);
    Check.errorAtBar(TWO, before + "not [not [not [|not in c]]];", 1);
    Check.error(TWO, before + "[[[[[not in c and not in d]]]]];", 0, -1);
    Check.errorAtBar(TWO, before + "[[[[not in c and [in c or not |not in d]]]]];", 1);
    Check.errorAtBar(TWO, before + "[[[[[[in c] and [|[in d]]]]]]];", 1);
  }

  private static void limitOfTokens() {
    DebateHall hall = Check.hall("speaker a time 3600; claim c by a;");
    StringBuilder text = new StringBuilder();
    for (int n = 0; n < 66; n++) {
      text.append("concede c;recall c;");
    }
    text.append("concede c");
    Check.same("398 tokens and no semicolon", Check.tell(hall, text.toString()), 1);
    Check.same("errorAt the end", hall.errorAt(), text.length());
    Check.same("399 tokens", Check.tell(hall, text + ";  "), 0);
    Check.same("recalled again", Check.tell(hall, "recall c;"), 0);
    Check.same("400 tokens", Check.tell(hall, text + "; speaker"), 1);
    Check.same("errorAt the end behind 400", hall.errorAt(), text.length() + 9);
    Check.same("401 tokens", Check.tell(hall, text + "; speaker b;"), 1);
    Check.same("errorAt the 401st", hall.errorAt(), text.length() + 10);
    StringBuilder whole = new StringBuilder();
    whole.append("claim e1 by a;claim e2 by a;");
    for (int n = 0; n < 65; n++) {
      whole.append("concede c;recall c;");
    }
    Check.same("400 tokens that are right", Check.tell(hall, whole.toString()), 0);
    Check.same("they were told", hall.count(1), 3);
    Check.same("401 tokens, the last one by itself", Check.tell(hall, whole + "\n;"), 1);
    Check.same("errorAt the one by itself", hall.errorAt(), whole.length() + 1);
  }

  private static void names() {
    Check.errorAtBar(TWO, "speaker |a;", 2);
    Check.errorAtBar(TWO, "claim |c by a;", 2);
    Check.errorAtBar(TWO, "attack |d from c on d;", 2);
    Check.errorAtBar(TWO, "support |c from c for c;", 2);
    Check.errorAtBar(TWO, "claim e by a; claim |e by b;", 2);
    Check.error(TWO, "speaker c; claim a by c; claim b by a; attack e from d on a;", 0, -1);
    Check.errorAtBar(TWO, "claim e by |c;", 3);
    Check.errorAtBar(TWO, "attack x from |e on d;", 3);
    Check.errorAtBar(TWO, "attack x from |a on d;", 3);
    Check.errorAtBar(TWO, "attack x from c on |b;", 3);
    Check.errorAtBar(TWO, "attack x from c on |x;", 3);
    Check.errorAtBar(TWO, "support x from c for |x;", 3);
    Check.errorAtBar(TWO, "attack x from c on d; support y from |x for c;", 3);
    Check.errorAtBar(TWO, "concede |a;", 3);
    Check.errorAtBar(TWO, "recall |e;", 3);
    Check.errorAtBar(TWO, "attack x from c on d if in c or in |x;", 3);
    Check.errorAtBar(TWO, "attack x from c on d if out c and [not open |a or conceded e];", 3);
    Check.errorAtBar(TWO, "attack x from c on d if conceded |e;", 3);
    Check.errorAtBar(TWO, "attack x from c on |c;", 6);
    Check.errorAtBar(TWO, "attack x from c on d; attack y from c on |x;", 6);
    Check.error(TWO, "support x from c for c; support y from d for x;", 0, -1);
    Check.errorAtBar("speaker a; speaker b; speaker c; speaker d; speaker e;", "speaker f; speaker |g;", 4);
    Check.errorAtBar("speaker a; speaker b; speaker c; speaker d; speaker e;", "speaker f; speaker |a;", 2);
    Check.errorAtBar("speaker a; speaker b; speaker c; speaker d; speaker e;", "speaker f; speaker |g time 9999;", 4);
  }

  private static void fullHall() {
    StringBuilder text = new StringBuilder("speaker a time 3600; speaker b time 900; claim d by b;");
    for (int n = 1; n < 39; n++) {
      text.append("claim c").append(n).append(" by a weight 1;");
    }
    String full = text.toString();
    Check.error(full, "claim e by a;", 0, -1);
    Check.errorAtBar(full, "claim e by a; claim |f by a;", 4);
    Check.errorAtBar(full, "claim e by a; attack |f from d on e if out d;", 4);
    Check.errorAtBar(full, "claim e by a; support |f from g on h;".replace(" on ", " for "), 4);
    Check.errorAtBar(full, "claim e by a; claim |e by g;", 2);
    Check.error(full, "support e from d for d if out d; support f from d for d;", 0, -1);
    Check.same("items", Check.hall(full + "claim e by a;").count(1), 40);
  }

  private static void ranges() {
    Check.error("", "speaker a time 0; speaker b time 3600;", 0, -1);
    Check.errorAtBar("", "speaker a time |3601;", 5);
    Check.errorAtBar("", "speaker a time |999999;", 5);
    String rich = "speaker a time 3600; speaker b time 3600; claim c by a; claim d by b; ";
    Check.error(rich, "claim e by a weight 1; claim f by a weight 50;", 0, -1);
    Check.errorAtBar(rich, "claim e by a weight |0;", 5);
    Check.errorAtBar(rich, "claim e by a weight |51;", 5);
    Check.error(rich, "attack x from c on d force 1; support y from c for d force 50;", 0, -1);
    Check.errorAtBar(rich, "attack x from c on d force |0;", 5);
    Check.errorAtBar(rich, "attack x from c on d force |51;", 5);
    Check.errorAtBar(rich, "support x from c for d force |000;", 5);
    Check.errorAtBar(rich, "support x from c for d force |51 if in e;", 5);
  }

  private static void conceding() {
    Check.errorAtBar(TWO, "recall |c;", 6);
    Check.errorAtBar(TWO, "concede c; concede |c;", 6);
    Check.errorAtBar(TWO, "concede c; recall c; recall |c;", 6);
    Check.error(TWO, "concede c; recall c; concede c; concede d; attack x from c on d; concede x;", 0, -1);
  }

  private static void timeOfLines() {
    Check.error("", "speaker a time 20; claim c by a;", 0, -1);
    Check.errorAtBar("", "speaker a time 19; claim c by a|;", 7);
    Check.error("", "speaker a time 60; claim c by a weight 50;", 0, -1);
    Check.errorAtBar("", "speaker a time 59; claim c by a weight 50 |;", 7);
    String poor = "speaker a time 30; speaker b time 20; claim c by a; claim d by b;";
    Check.error(poor, "attack x from c on d;", 0, -1);
    Check.errorAtBar(poor, "attack x from c on d force 6|;", 7);
    Check.errorAtBar(poor, "attack x from c on d force 6 if out c|;", 7);
    Check.errorAtBar(poor, "support x from c for c force 6|;", 7);
    Check.errorAtBar(poor, "concede d|;", 7);
    Check.error(poor, "concede c; recall c; concede c; recall c; concede c;", 0, -1);
    Check.errorAtBar(poor, "concede c; recall c; concede c; recall c; concede c; recall c|;", 7);
    DebateHall hall = Check.hall("speaker a; speaker b time 100; claim c by a; claim d by b weight 7;");
    Check.same("time after claims", hall.speaker(0, 0) * 1000 + hall.speaker(1, 0), 280083);
    Check.tell(hall, "attack x from c on d; support y from c for d force 9; concede d;");
    Check.same("time after moves", hall.speaker(0, 0) * 1000 + hall.speaker(1, 0), 256081);
    Check.tell(hall, "recall d; attack z from d on c force 3 if in d;");
    Check.same("time after a test that does not hold", hall.speaker(0, 0) * 1000 + hall.speaker(1, 0), 256071);
    Check.same("which is not told", hall.count(1), 4);
    Check.same("its name is free", Check.tell(hall, "claim z by a;"), 0);
  }

  /** Here c is in, d is out and conceded, e and f are open. */
  private static void testsOfLines() {
    String scene = "speaker a time 900; speaker b time 900; claim c by a; claim d by b; claim e by a; claim f by b;"
        + "concede d; attack x from e on f; attack y from f on e;";
    String[] hold = {"in c", "out d", "open e", "conceded d", "not in d", "not out c", "not open c", "not conceded c",
        "in c or in c and in d", "[in c or in c] and in c", "in d and in c or in c", "in c and in c or in d and in d",
        "not in d and in c", "not [in d and in c]", "not not in c", "in d or not in d", "out d and open f and in c",
        "in d or out c or open f", "not [in c and not [out d or in e]] or conceded d", "in e or out d"};
    String[] fail = {"in d", "out c", "open c", "conceded c", "in e", "out e", "not in c", "not open f",
        "[in c or in c] and in d", "in d and [in c or in c]", "not [in c or in d]", "not not in d", "in c and in e",
        "not in c or in d", "not in d and in d", "not [not [in c and in f]]"};
    for (String test : hold) {
      Check.same("told if " + test, Check.hall(scene + "support z from c for c if " + test + ";").count(4), 1);
    }
    for (String test : fail) {
      Check.same("told if " + test, Check.hall(scene + "support z from c for c if " + test + ";").count(4), 0);
    }
    DebateHall hall = Check.hall(scene + "support z from c for c if in d; recall d; support z from c for c if in d;"
        + "attack w from c on d; support v from c for c if in d; support u from c for c if out d;");
    Check.same("tests go by what stands then", hall.count(4), 2);
    Check.same("the paper tells which", Check.paper(hall).contains("u a in") && !Check.paper(hall).contains("v a"), true);
  }

  private static void orderOfErrors() {
    Check.errorAtBar(TWO, "concede q; claim c by q weight 99; |?", 1);
    Check.errorAtBar(TWO, "claim |c by q weight 99;", 2);
    Check.errorAtBar(TWO, "claim e by |q weight 99;", 3);
    Check.errorAtBar(TWO, "attack x from |q on c force 99 if in q;", 3);
    Check.errorAtBar(TWO, "attack x from c on |c force 99 if in q;", 6);
    Check.errorAtBar(TWO, "attack x from c on d force |99 if in q;", 5);
    Check.errorAtBar(TWO, "concede |q; speaker a;", 3);
    Check.errorAtBar("speaker a time 20; claim c by a;", "support x from c for c if in |q;", 3);
    Check.errorAtBar("speaker a time 20; claim c by a;", "concede c|; concede q;", 7);
  }

  private static void allOrNothing() {
    DebateHall hall = Check.hall(TWO + "attack x from c on d; concede c;");
    Check.paper(hall);
    long digest = hall.digest();
    Check.same("a long text with an error", Check.tell(hall, "speaker e; claim f by e; attack y from f on c;"
        + "recall c; concede d; attack z from c on d if in c; support w from f for d if in f; claim c by a;"), 2);
    Check.same("nothing of it is told", hall.digest(), digest);
    Check.same("the names are free", Check.tell(hall, "speaker e; claim f by e; recall c;"), 0);
    Check.same("errorAt after none", hall.errorAt(), -1);
    Check.same("in by what stands anew", hall.item(0, 5), 1);
    Check.same("another error", Check.tell(hall, "speaker e;"), 2);
    Check.same("errorAt stays", hall.errorAt(), 8);
    Check.put(hall, "speaker g;");
    Check.same("errorAt stays till the next tell", hall.errorAt(), 8);
    Check.same("tell again", hall.tell(), 0);
    Check.same("errorAt then", hall.errorAt(), -1);
  }
}
