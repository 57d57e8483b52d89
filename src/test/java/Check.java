import java.util.Objects;

/** What all tests share: they count the answers that are not due, and put texts on the tape of a hall. */
final class Check {
  private static int wrong = 0;

  private Check() {
  }

  static void same(String call, Object got, Object due) {
    if (!Objects.equals(got, due)) {
      wrong++;
      System.out.println(call + " answered " + got + ", due is " + due);
    }
  }

  /** A call that may throw. */
  interface Call {
    Object answer();
  }

  /** Returns the answer, or the short name of the exception that is thrown instead. */
  static Object outcome(Call call) {
    try {
      return call.answer();
    } catch (RuntimeException e) {
      return e.getClass().getSimpleName();
    }
  }

  static void gives(String what, Call call, Object due) {
    same(what, outcome(call), due);
  }

  static void outOfBounds(String what, Call call) {
    gives(what, call, "IndexOutOfBoundsException");
  }

  static void illegal(String what, Call call) {
    gives(what, call, "IllegalArgumentException");
  }

  /** Returns the numbers with which a text is fed: five in a row for each twenty bytes, filled up with blanks. */
  static int[] numbers(String text) {
    int[] numbers = new int[(text.length() + 19) / 20 * 5];
    for (int i = 0; i < numbers.length * 4; i++) {
      int one = i < text.length() ? text.charAt(i) & 255 : ' ';
      numbers[i / 4] = numbers[i / 4] << 8 | one;
    }
    return numbers;
  }

  static void put(DebateHall hall, String text) {
    int[] n = numbers(text);
    for (int i = 0; i < n.length; i += 5) {
      hall.feed(n[i], n[i + 1], n[i + 2], n[i + 3], n[i + 4]);
    }
    hall.trim(text.length());
  }

  static int tell(DebateHall hall, String text) {
    put(hall, text);
    return hall.tell();
  }

  /** A hall to which a text without an error was told. */
  static DebateHall hall(String text) {
    DebateHall hall = new DebateHall();
    same("tell: " + text, tell(hall, text), 0);
    return hall;
  }

  /** Tells a text to a hall that has heard another one, and checks the error and its place. */
  static void error(String before, String text, int error, int place) {
    DebateHall hall = hall(before);
    long digest = hall.digest();
    same("tell: " + text, tell(hall, text), error);
    same("errorAt: " + text, hall.errorAt(), place);
    if (error != 0) {
      same("digest after an error: " + text, hall.digest(), digest);
    }
  }

  /** Like error(), the place being that of the bar, which is left out of the text. */
  static void errorAtBar(String before, String text, int error) {
    error(before, text.replace("|", ""), error, text.indexOf('|'));
  }

  static String paper(DebateHall hall) {
    StringBuilder text = new StringBuilder();
    int length = hall.sheet();
    for (int i = 0; i < length; i++) {
      text.append((char) hall.byteAt(i));
    }
    return text.toString();
  }

  static void end(String test) {
    System.out.println(test + (wrong == 0 ? ": all answers are as due" : ": " + wrong + " answers are not as due"));
    if (wrong != 0) {
      System.exit(1);
    }
  }
}
