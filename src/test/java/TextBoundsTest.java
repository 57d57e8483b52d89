/**
 * The tape, the tokens, the grammar and error 1: each sentence of the document that names a boundary, in its order,
 * with the last that is allowed and the first that is not.
 */
public final class TextBoundsTest {
  private static final String KEYWORDS = "speaker time claim by weight attack support from on for force if concede recall "
      + "in out open conceded not and or";
  private static final String TOKENS = KEYWORDS + " [ ] ; name 5";
  private static final String LINE = "speaker claim attack support concede recall";
  private static final String SINGLE = "not [ in out open conceded";
  /** c is of a, d of b. */
  private static final String PAIR = "speaker a time 3600; speaker b time 3600; claim c by a; claim d by b;";
  private static final String IF = "support x from c for d if ";

  public static void main(String[] args) {
    usedFor512Calls();
    tapeOf2000Bytes();
    tapeIsEmptyBehindTell();
    tapeIsReadToItsLength();
    fullTapeIsRead();
    eachFedByteHasItsPlace();
    bytesBetweenTokens();
    bytesOfTokens();
    textsOfNothing();
    wordsOf8Bytes();
    namesThatDifferInOneByte();
    numbersOf6Digits();
    longestTokens();
    keywordsAreNoNames();
    tokensThatMayFollow();
    depthOf6();
    depthEndsWithWhatItHolds();
    tokensUpTo400();
    firstOfError1();
    errorAtOfTheLatest();
    Check.end("TextBoundsTest");
  }

  private static boolean isBlank(char c) {
    return c == ' ' || c == '\n';
  }

  private static boolean isLetter(char c) {
    return c >= 'a' && c <= 'z';
  }

  private static boolean isDigit(char c) {
    return c >= '0' && c <= '9';
  }

  /** A text that is right, or has error 1 at a place. */
  private static void rightOrError1(String text, boolean right, int place) {
    Check.error("", text, right ? 0 : 1, right ? -1 : place);
  }

  /** "An object is used for at most 512 calls after it has been made." Check.hall makes three of them here. */
  private static void usedFor512Calls() {
    DebateHall given = Check.hall("speaker a time 3600;");
    for (int call = 4; call < 512; call++) {
      given.give(0, 3600);
    }
    Check.same("the 512th call, after 508 of give", given.speaker(0, 0), 3600 * 509);
    DebateHall fed = Check.hall("speaker a time 3600;");
    for (int call = 4; call + 2 < 512; call += 3) {
      Check.same("an error at call " + (call + 2), Check.tell(fed, "claim c by a; claim"), 1);
    }
    Check.same("the 511th call: nothing was told", fed.count(1), 0);
    Check.same("the 512th call: no time was taken", fed.speaker(0, 0), 3600);
  }

  /** "The tape is a row of at most 2000 bytes, at first empty"; what feed and trim allow and return. */
  private static void tapeOf2000Bytes() {
    DebateHall hall = new DebateHall();
    Check.same("at first empty", hall.count(10), 0);
    Check.illegal("trim an empty tape to 1", () -> hall.trim(1));
    Check.illegal("trim an empty tape to -1", () -> hall.trim(-1));
    Check.same("trim an empty tape to 0", hall.trim(0), 0);
    for (int n = 20; n <= 2000; n += 20) {
      Check.same("feed to " + n, hall.feed(0, 0, 0, 0, 0), n);
      Check.same("count to " + n, hall.count(10), n);
    }
    for (int room = 0; room < 20; room++) {
      int more = 2001 - room;
      Check.same("trim to leave " + room, hall.trim(2000 - room), 2000 - room);
      Check.gives("feed with room for " + room, () -> hall.feed(1, 2, 3, 4, 5), "IllegalStateException");
      Check.illegal("trim to " + more, () -> hall.trim(more));
      Check.same("nothing was fed or trimmed", hall.count(10), 2000 - room);
    }
    Check.same("trim to leave 20", hall.trim(1980), 1980);
    Check.same("feed with room for 20", hall.feed(1, 2, 3, 4, 5), 2000);
    for (int n : new int[] {-1, Integer.MIN_VALUE, 2001, Integer.MAX_VALUE}) {
      Check.illegal("trim to " + n, () -> hall.trim(n));
    }
    Check.same("trim to 1", hall.trim(1), 1);
    Check.same("trim to 0", hall.trim(0), 0);
    Check.same("feed then", hall.feed(1, 2, 3, 4, 5), 20);
  }

  /** "and it is empty behind it", whatever tell returns. */
  private static void tapeIsEmptyBehindTell() {
    String full = PAIR + "speaker e; speaker f; speaker g; speaker h time 0;";
    String[] texts = {"claim e by a;", "?", "claim c by a;", "claim e by c;", "speaker i;", "claim e by a weight 0;",
        "recall c;", "claim e by h;"};
    for (int error = 0; error < 8; error++) {
      DebateHall hall = Check.hall(full);
      Check.same("tell " + texts[error], Check.tell(hall, texts[error]), error);
      Check.same("bytes behind error " + error, hall.count(10), 0);
      Check.illegal("trim behind error " + error, () -> hall.trim(1));
      Check.same("nothing is read again behind error " + error, hall.tell(), 0);
      Check.same("what is fed behind error " + error, Check.tell(hall, "claim z by a;"), 0);
    }
  }

  /** "the end of the tape (at its length)"; "Shortens the tape to its first bytes." */
  private static void tapeIsReadToItsLength() {
    String text = "speaker a;speaker b;";
    for (int n = 0; n <= text.length(); n++) {
      DebateHall hall = new DebateHall();
      Check.put(hall, text);
      hall.trim(n);
      int begun = n / 10 * 10;
      boolean right = n == begun;
      Check.same("tell of the first " + n, hall.tell(), right ? 0 : 1);
      Check.same("errorAt of the first " + n, hall.errorAt(), right ? -1 : n - begun < 7 ? begun : n);
      Check.same("speakers of the first " + n, hall.count(0), right ? n / 10 : 0);
    }
    DebateHall hall = new DebateHall();
    Check.put(hall, "speaker abcdefgh;   ");
    hall.trim(9);
    hall.feed(0x7a3b2020, 0x20202020, 0x20202020, 0x20202020, 0x20202020);
    Check.same("what is fed goes on where it was cut", hall.tell(), 0);
    Check.same("and so does the name", Check.tell(hall, "claim c by az;"), 0);
  }

  /** A tape with all its 2000 bytes is read to the last one. */
  private static void fullTapeIsRead() {
    String before = "speaker a" + " ".repeat(1990);
    Check.error("", before + ";", 0, -1);
    Check.error("", before + " ", 1, 2000);
    Check.error("", before + "?", 1, 1999);
    Check.error("", before + "]", 1, 1999);
    Check.error("", "\n".repeat(1992) + "speaker ", 1, 2000);
    Check.error("", " ".repeat(1991) + "speaker a", 1, 2000);
    Check.error("", " ".repeat(1984) + "speaker a2345678", 1, 2000);
    Check.error("", " ".repeat(1983) + "speaker a23456789", 1, 1991);
    Check.error("", " ".repeat(1993) + "1234567", 1, 1993);
    Check.error("", " ".repeat(1985) + "speaker a time", 1, 1999);
    Check.error("", "a".repeat(2000), 1, 0);
    Check.error("", "9".repeat(2000), 1, 0);
    Check.error("", ";".repeat(2000), 1, 0);
    Check.error("", "speaker " + "z".repeat(1992), 1, 8);
    Check.error("", "speaker a time " + "0".repeat(1985), 1, 15);
  }

  /** "the four bytes of each number, the highest one first"; some of these bytes make a number less than 0. */
  private static void eachFedByteHasItsPlace() {
    for (int place = 0; place < 20; place++) {
      for (int value : new int[] {255, 128, 127, 1, 0}) {
        StringBuilder text = new StringBuilder(" ".repeat(20));
        text.setCharAt(place, (char) value);
        Check.error("", text.toString(), 1, place);
      }
    }
    DebateHall hall = new DebateHall();
    hall.feed(0x73706561, 0x6b657220, 0x61626364, 0x65666768, 0x3b0a200a);
    Check.same("tell speaker abcdefgh", hall.tell(), 0);
    hall.feed(0x636c6169, 0x6d207920, 0x62792061, 0x62636465, 0x6667683b);
    Check.same("tell claim y by abcdefgh", hall.tell(), 0);
    Check.same("their names", Check.paper(hall), "y abcdefgh in\n");
  }

  /** "Blanks (32) and line ends (10) can stand between tokens, at the beginning and at the end": no other byte can. */
  private static void bytesBetweenTokens() {
    for (char c = 0; c < 256; c++) {
      boolean joins = isLetter(c) || isDigit(c);
      rightOrError1(c + "speaker a;", isBlank(c), 0);
      rightOrError1("speaker a;" + c, isBlank(c), 10);
      rightOrError1("speaker a;" + c + "speaker b;", isBlank(c), 10);
      rightOrError1("speaker" + c + "a;", isBlank(c), joins ? 0 : 7);
    }
  }

  /** "a letter a to z, followed by letters a to z and digits"; "a byte with which no token begins". */
  private static void bytesOfTokens() {
    for (char c = 0; c < 256; c++) {
      rightOrError1("speaker " + c + "a;", isBlank(c) || isLetter(c), 8);
      rightOrError1("speaker a" + c + ";", isBlank(c) || isLetter(c) || isDigit(c), c == ';' ? 10 : 9);
      rightOrError1("speaker a time 5" + c + ";", isBlank(c) || isDigit(c), c == ';' ? 17 : 16);
    }
  }

  private static void textsOfNothing() {
    for (String text : new String[] {"", " ", "\n", " \n", "\n ", " \n".repeat(1000)}) {
      Check.error("", text, 0, -1);
      Check.error(PAIR, text, 0, -1);
    }
  }

  /** "A word: ... at most 8 bytes", wherever a name stands. */
  private static void wordsOf8Bytes() {
    String scene = "speaker a2345678 time 3600; speaker b; claim c2345678 by a2345678; claim d by b;";
    String[] lines = {"speaker |e2345678;", "claim |e2345678 by b;", "claim e by |a2345678;",
        "attack |x2345678 from d on c2345678;", "attack x from |c2345678 on d;", "attack x from d on |c2345678;",
        "support |x2345678 from d for d;", "support x from |c2345678 for d;", "support x from d for |c2345678;",
        "concede |c2345678;", "attack x from d on c2345678 if in |c2345678;", "support x from d for d if out |c2345678;",
        "support x from d for d if open |c2345678;", "support x from d for d if conceded |c2345678;"};
    for (String line : lines) {
      Check.error(scene, line.replace("|", ""), 0, -1);
      int bar = line.indexOf('|');
      Check.errorAtBar(scene, line.substring(0, bar + 9) + "9" + line.substring(bar + 9), 1);
    }
    Check.error(scene + "concede c2345678;", "recall c2345678;", 0, -1);
    Check.errorAtBar(scene + "concede c2345678;", "recall |c23456789;", 1);
    Check.errorAtBar("", "speaker |abcdefghi;", 1);
    Check.errorAtBar("", "speaker |conceded0;", 1);
    Check.errorAtBar(PAIR, IF + "|conceded0 c;", 1);
    Check.error("", "speaker concede1; speaker a; speaker a1;", 0, -1);
  }

  /** Names are the same only if all their bytes are. */
  private static void namesThatDifferInOneByte() {
    for (int place = 0; place < 8; place++) {
      StringBuilder name = new StringBuilder("aaaaaaaa");
      name.setCharAt(place, 'b');
      Check.error("speaker aaaaaaaa;", "speaker " + name + ";", 0, -1);
      Check.error("speaker a; claim aaaaaaaa by a;", "claim " + name + " by a;", 0, -1);
      Check.errorAtBar("speaker aaaaaaaa;", "claim c by |" + name + ";", 3);
    }
    for (int length = 1; length < 8; length++) {
      String name = "a".repeat(length);
      Check.error("speaker " + name + ";", "speaker " + name + "a;", 0, -1);
      Check.errorAtBar("speaker " + name + ";", "claim c by |" + name + "a;", 3);
      Check.errorAtBar("speaker " + name + "a;", "claim c by |" + name + ";", 3);
    }
  }

  /** "A number: 1 to 6 digits." */
  private static void numbersOf6Digits() {
    Check.errorAtBar("", "speaker a time |;", 1);
    Check.same("1 digit", Check.hall("speaker a time 7;").speaker(0, 0), 7);
    Check.same("6 digits", Check.hall("speaker a time 003456;").speaker(0, 0), 3456);
    Check.error("", "speaker a time 000000;", 0, -1);
    Check.errorAtBar("", "speaker a time |999999;", 5);
    Check.error(PAIR, "claim e by a weight 000050;", 0, -1);
    Check.errorAtBar(PAIR, "claim e by a weight |0000050;", 1);
    Check.error(PAIR, "attack x from c on d force 000050;", 0, -1);
    Check.errorAtBar(PAIR, "attack x from c on d force |0000050;", 1);
    // The last two are 5 with 32 and with 64 bits.
    for (String number : new String[] {"0000000", "0003456", "1000000", "4294967301", "18446744073709551621"}) {
      Check.errorAtBar("", "speaker a time |" + number + ";", 1);
    }
  }

  /** "The longest possible token is always read." */
  private static void longestTokens() {
    Check.errorAtBar("", "|speakera;", 1);
    Check.errorAtBar("", "speaker a |time5;", 1);
    Check.errorAtBar("", "speaker a |timeb;", 1);
    Check.errorAtBar("", "speaker a time 5|claim c by a;", 1);
    Check.error("", "speaker time5;speaker in1;speaker nota;speaker inon;", 0, -1);
    Check.error(PAIR, "attack x from c on d force 5if in c;", 0, -1);
    Check.errorAtBar(PAIR, "attack x from c on d |force5if in c;", 1);
    Check.errorAtBar(PAIR, "attack x from c on d force 5 |ifin c;", 1);
    Check.errorAtBar(PAIR, IF + "|notin c;", 1);
    Check.errorAtBar(PAIR, IF + "in candin |d;", 1);
    Check.error(PAIR, IF + "not[in c]and[out d]or not[[open c]];", 0, -1);
  }

  private static void keywordsAreNoNames() {
    String[] lines = {"speaker |;", "claim | by a;", "claim e by |;", "attack | from c on d;", "attack x from | on d;",
        "attack x from c on |;", "support | from c for d;", "support x from | for d;", "support x from c for |;",
        "concede |;", "recall |;", IF + "in |;", IF + "out |;", IF + "open |;", IF + "conceded |;"};
    for (String line : lines) {
      for (String word : KEYWORDS.split(" ")) {
        Check.errorAtBar(PAIR, line.replace("|", "|" + word), 1);
      }
      Check.same("a name in " + line, Check.tell(Check.hall(PAIR), line.replace("|", "q")) == 1, false);
    }
  }

  /** The grammar: which tokens may follow the beginnings of texts; each other one is error 1. */
  private static void tokensThatMayFollow() {
    String[][] follow = {
        {"", LINE}, {"speaker e;", LINE}, {"recall c;", LINE},
        {"speaker", "name"}, {"speaker e", "time ;"}, {"speaker e time", "5"}, {"speaker e time 7", ";"},
        {"claim", "name"}, {"claim e", "by"}, {"claim e by", "name"}, {"claim e by a", "weight ;"},
        {"claim e by a weight", "5"}, {"claim e by a weight 7", ";"},
        {"attack", "name"}, {"attack x", "from"}, {"attack x from", "name"}, {"attack x from c", "on"},
        {"attack x from c on", "name"}, {"attack x from c on d", "force if ;"},
        {"attack x from c on d force", "5"}, {"attack x from c on d force 7", "if ;"},
        {"support", "name"}, {"support x", "from"}, {"support x from", "name"}, {"support x from c", "for"},
        {"support x from c for", "name"}, {"support x from c for d", "force if ;"},
        {"support x from c for d force", "5"}, {"support x from c for d force 7", "if ;"},
        {"concede", "name"}, {"concede c", ";"}, {"recall", "name"}, {"recall c", ";"},
        {IF, SINGLE}, {"attack x from c on d force 7 if", SINGLE}, {IF + "not", SINGLE}, {IF + "[", SINGLE},
        {IF + "in", "name"}, {IF + "out", "name"}, {IF + "open", "name"}, {IF + "conceded", "name"},
        {IF + "in c", "and or ;"}, {IF + "not in c", "and or ;"}, {IF + "in c and", SINGLE}, {IF + "in c or", SINGLE},
        {IF + "[in c", "and or ]"}, {IF + "[not in c", "and or ]"}, {IF + "[in c and", SINGLE}, {IF + "[in c or", SINGLE},
        {IF + "[in c]", "and or ;"}, {IF + "[[in c]", "and or ]"}, {IF + "not [in c]", "and or ;"},
        {IF + "in c and [in c]", "and or ;"}};
    for (String[] row : follow) {
      for (String token : TOKENS.split(" ")) {
        follows(row[0], token, (" " + row[1] + " ").contains(" " + token + " "));
      }
    }
  }

  private static void follows(String beginning, String token, boolean may) {
    String text = beginning + " " + token;
    DebateHall hall = Check.hall(PAIR);
    int error = Check.tell(hall, text);
    int place = error == 1 ? hall.errorAt() : -1;
    Check.same("'" + token + "' is error 1 behind '" + beginning + "'", place == beginning.length() + 1, !may);
    if (may && !token.equals(";")) {
      Check.same("the end is error 1 behind '" + text + "'", place, text.length());
    }
  }

  /** Six times [ or not, as the bits of a number tell. */
  private static String sixOpened(int nots) {
    StringBuilder text = new StringBuilder();
    for (int n = 0; n < 6; n++) {
      text.append((nots >> n & 1) == 0 ? "[" : "not ");
    }
    return text.toString();
  }

  /** "It may be at most 6"; "the [ or not behind which the depth would be 7". */
  private static void depthOf6() {
    for (int nots = 0; nots < 64; nots++) {
      String before = IF + sixOpened(nots);
      String behind = "]".repeat(6 - Integer.bitCount(nots)) + ";";
      DebateHall hall = Check.hall(PAIR);
      Check.same("depth 6: " + before, Check.tell(hall, before + "in c" + behind), 0);
      Check.same("told: " + before, hall.count(4), Integer.bitCount(nots) % 2 == 0 ? 1 : 0);
      Check.errorAtBar(PAIR, before + "|[in c]" + behind, 1);
      Check.errorAtBar(PAIR, before + "|not in c" + behind, 1);
      boolean endsWithNot = nots >= 32;
      if (endsWithNot) {
        Check.error(PAIR, before + "in d and not in c" + behind, 0, -1);
      } else {
        Check.errorAtBar(PAIR, before + "in d and |not in c" + behind, 1);
      }
    }
  }

  /** "1 greater between a [ and its ], and behind a not for what it turns". */
  private static void depthEndsWithWhatItHolds() {
    String sixNots = "not ".repeat(6);
    Check.error(PAIR, IF + "[[[[[[in c]]]]]] and [[[[[[in d]]]]]];", 0, -1);
    Check.error(PAIR, IF + sixNots + "in c and " + sixNots + "in d;", 0, -1);
    Check.error(PAIR, IF + sixNots + "in c or [[[[[[in d]]]]]];", 0, -1);
    Check.error(PAIR, IF + "[[[[[[in c] or [in d]]]]]] or [in c];", 0, -1);
    Check.errorAtBar(PAIR, IF + "[[[[[[in c] or [|[in d]]]]]]];", 1);
    Check.error(PAIR, IF + "not [in c] and not not [[[[in d]]]];", 0, -1);
    Check.errorAtBar(PAIR, IF + "not [in c] and not not [[[[|[in d]]]]];", 1);
    Check.error(PAIR, IF + "[not [in c] and [not [not [in d]]]];", 0, -1);
    Check.errorAtBar(PAIR, IF + "[not [in c] and [not [not [|not in d]]]];", 1);
    Check.errorAtBar(PAIR, IF + "[not [in c] and [not [not [|[in d]]]]];", 1);
    Check.error(PAIR, IF + "[[[[[[in c]]]]]];" + IF.replace("x", "y") + "[[[[[[in c]]]]]];", 0, -1);
  }

  /** "the token that would be the 401st (the end of the tape not counted)". */
  private static void tokensUpTo400() {
    String scene = "speaker a time 3600; claim c by a;";
    String six = "concede c;recall c;";
    String lines = "claim e by a;claim f by a;" + six.repeat(65);
    String test = "support x from c for c if in c" + " and in c".repeat(130) + ";";
    for (String whole : new String[] {lines, test}) {
      Check.error(scene, whole, 0, -1);
      Check.error(scene, whole + " \n", 0, -1);
      for (String more : new String[] {";", "speaker", "?", "g", "7", "[", "concede c;", "g23456789", "1234567"}) {
        Check.errorAtBar(scene, whole + "|" + more, 1);
        Check.errorAtBar(scene, whole + " \n|" + more, 1);
      }
    }
    String without = six.repeat(66) + "concede c;";
    Check.errorAtBar(scene, without + "speaker|", 1);
    Check.errorAtBar(scene, without + "speaker  |", 1);
    Check.errorAtBar(scene, without + "speaker |g", 1);
    Check.errorAtBar(scene, without + "speaker |g;", 1);
    Check.errorAtBar(scene, without + "|; speaker g;", 1);
    Check.errorAtBar(scene, without + "|?; speaker g;", 1);
    String or = "support x from c for c force 5 if in c" + " or in c".repeat(129);
    Check.errorAtBar(scene, or + " or not |in c;", 1);
    Check.error(scene, or + ";", 0, -1);
  }

  /** "Error 1: the first token with which the tokens so far are not the beginning of a text"; nothing is told then. */
  private static void firstOfError1() {
    Check.errorAtBar("", "speaker a;speaker |;speaker b?", 1);
    Check.errorAtBar("", "speaker a |? ?;", 1);
    Check.errorAtBar("", "speaker a time |12345678 ?", 1);
    Check.errorAtBar("", "|a23456789 speaker", 1);
    Check.errorAtBar("", "|a2345678 speaker", 1);
    Check.errorAtBar("", "speaker a; speaker|", 1);
    Check.errorAtBar("", "speaker a; speaker \n |", 1);
    Check.errorAtBar("", "speaker a; speaker b|", 1);
    Check.errorAtBar(PAIR, "claim c by q weight 0; claim |?", 1);
    Check.errorAtBar(PAIR, "speaker a; recall c; claim e by a weight 51; concede c|", 1);
  }

  /** "the error of the latest tell(); -1 if it had none, or there was none". */
  private static void errorAtOfTheLatest() {
    DebateHall hall = new DebateHall();
    Check.same("there was no tell", hall.errorAt(), -1);
    hall.feed(0, 0, 0, 0, 0);
    Check.same("there was only a feed", hall.errorAt(), -1);
    Check.same("an error at 0", hall.tell() * 1000 + hall.errorAt(), 1000);
    Check.same("asked again", hall.errorAt(), 0);
    Check.same("no error", Check.tell(hall, "speaker a;"), 0);
    Check.same("it had none", hall.errorAt(), -1);
    Check.same("an error of a line", Check.tell(hall, "speaker a;"), 2);
    Check.same("at the name", hall.errorAt(), 8);
    Check.put(hall, "speaker b; ?");
    hall.give(0, 60);
    hall.sheet();
    Check.gives("what throws", () -> hall.count(12), "IndexOutOfBoundsException");
    Check.same("not of what is fed but not told", hall.errorAt(), 8);
    Check.same("another error", hall.tell() * 1000 + hall.errorAt(), 1011);
    Check.same("an empty tape has none", hall.tell(), 0);
    Check.same("then", hall.errorAt(), -1);
  }
}
