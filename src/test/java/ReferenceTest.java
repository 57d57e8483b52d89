import java.util.List;
import java.util.Random;

/**
 * Promises 1 to 22: long runs of calls, the same on a hall and on the reference, whose answers must agree.
 * An argument tells another number of runs.
 */
public final class ReferenceTest {
  private static final int RUNS = 300;
  private static int most = 0;

  private final Random random;
  private final DebateHall hall = new DebateHall();
  private final Reference reference = new Reference();
  private final StringBuilder told = new StringBuilder();
  private final int[] errors = new int[8];
  private final boolean rich;
  private boolean agrees = true;
  private int fresh = 0;

  private ReferenceTest(long seed) {
    random = new Random(seed);
    rich = seed % 4 == 0;
  }

  public static void main(String[] args) {
    int runs = args.length > 0 ? Integer.parseInt(args[0]) : RUNS;
    int[] errors = new int[8];
    for (int run = 0; run < runs; run++) {
      ReferenceTest test = new ReferenceTest(run);
      test.play();
      for (int error = 0; error < 8; error++) errors[error] += test.errors[error];
    }
    for (int error = 0; error < 8; error++) {
      Check.same("the runs meet error " + error, errors[error] > 10, true);
    }
    Check.same("the most items of a run", most, 40);
    Check.end("ReferenceTest");
  }

  private void play() {
    int texts = rich ? 36 : 6 + random.nextInt(12);
    for (int n = 0; n < texts && agrees; n++) {
      tell(random.nextInt(6) == 0 ? spoilt(text()) : text());
      askAll();
    }
    most = Math.max(most, hall.count(1));
  }

  private void compare(String call, Check.Call here, Check.Call there) {
    Object got = Check.outcome(here);
    Object due = Check.outcome(there);
    if (!got.equals(due) && agrees) {
      agrees = false;
      Check.same(call + " after the texts:\n" + told + "\n", got, due);
    }
  }

  private void tell(String text) {
    int[] n = Check.numbers(text);
    for (int i = 0; i < n.length; i += 5) {
      int a = i;
      compare("feed", () -> hall.feed(n[a], n[a + 1], n[a + 2], n[a + 3], n[a + 4]),
          () -> reference.feed(n[a], n[a + 1], n[a + 2], n[a + 3], n[a + 4]));
    }
    compare("trim", () -> hall.trim(text.length()), () -> reference.trim(text.length()));
    told.append(text).append("\n--\n");
    int error = hall.tell();
    errors[error]++;
    compare("tell", () -> error, reference::tell);
    compare("errorAt", hall::errorAt, reference::errorAt);
  }

  private void askAll() {
    if (random.nextInt(3) == 0) compare("sheet", hall::sheet, reference::sheet);
    compare("digest", hall::digest, reference::digest);
    compare("leader", hall::leader, reference::leader);
    compare("share", hall::share, reference::share);
    int speakers = hall.count(0);
    int items = hall.count(1);
    for (int s = 0; s < speakers; s++) {
      int speaker = s;
      int force = random.nextInt(54) - 1;
      compare("concede " + s, () -> hall.concede(speaker), () -> reference.concede(speaker));
      compare("advise " + s + " " + force, () -> hall.advise(speaker, force), () -> reference.advise(speaker, force));
    }
    for (int i = 0; i < items; i++) {
      int item = i;
      int other = random.nextInt(items + 1);
      int speaker = random.nextInt(speakers + 1);
      compare("least " + i, () -> hall.least(item), () -> reference.least(item));
      compare("defends " + i + " " + other, () -> hall.defends(item, other), () -> reference.defends(item, other));
      compare("conceding " + i + " " + speaker, () -> hall.conceding(item, speaker),
          () -> reference.conceding(item, speaker));
    }
    for (int n = 0; n < (items <= 14 ? items : 2); n++) {
      int item = items <= 14 ? n : random.nextInt(items);
      compare("frees " + item, () -> hall.frees(item), () -> reference.frees(item));
    }
    int speaker = random.nextInt(speakers + 1);
    int time = chance(20) ? 3601 : random.nextInt(rich ? 1500 : 60);
    compare("give " + speaker + " " + time, () -> hall.give(speaker, time), () -> reference.give(speaker, time));
    compare("digest", hall::digest, reference::digest);
  }

  private String text() {
    StringBuilder text = new StringBuilder();
    if (hall.count(0) < 2 && !chance(8)) {
      text.append(rich ? "speaker s1 time 2000; speaker s2; claim c1 by s1; claim c2 by s2;"
          : "speaker s1 time 99; speaker s2; claim c1 by s1; claim c2 by s2;");
    }
    int lines = random.nextInt(rich ? 5 : 7);
    for (int n = 0; n < lines; n++) {
      text.append(line()).append(chance(4) ? "\n" : "");
    }
    return text.toString();
  }

  private String line() {
    switch (random.nextInt(24)) {
      case 0: return "speaker " + name("s", reference.speakerNames()) + (chance(2) ? " time " + number(3605, 0, rich ? 3600 : 60) : "") + ";";
      case 1: return "concede " + someItem(1, -1) + " ;";
      case 2: return "recall " + someItem(0, -1) + ";";
      case 3: case 4: case 5:
        return "support " + name("x", reference.itemNames()) + " from " + someClaim() + " for " + someItem(-1, -1) + rest();
      case 6: case 7: case 8: case 9: case 10: case 11: case 12:
        return "claim " + name("c", reference.itemNames()) + " by " + known(reference.speakerNames(), "s", 2)
            + (chance(2) ? " weight " + number(60, 1, 16) : "") + ";";
      default:
        String source = someClaim();
        int number = reference.itemNames().indexOf(source);
        return "attack " + name("x", reference.itemNames()) + " from " + source + " on "
            + someItem(-1, number < 0 ? -1 : reference.item(number, 1)) + rest();
    }
  }

  private String rest() {
    return (chance(2) ? " force " + number(60, 1, 16) : "") + (chance(4) ? " if " + test(0) : "") + ";";
  }

  private String test(int depth) {
    switch (random.nextInt(depth > 4 ? 4 : 8)) {
      case 0: return "in " + someItem();
      case 1: return "out " + someItem();
      case 2: return "open " + someItem();
      case 3: return "conceded " + someItem();
      case 4: return "not " + test(depth + 1);
      case 5: return "[" + test(depth + 1) + "]";
      case 6: return test(depth + 1) + " and " + test(depth + 1);
      default: return test(depth + 1) + " or " + test(depth + 1);
    }
  }

  private boolean chance(int n) {
    return random.nextInt(n) == 0;
  }

  /** Mostly a number in a range, now and then another one. */
  private int number(int below, int low, int high) {
    return chance(25) ? random.nextInt(below) : low + random.nextInt(high - low + 1);
  }

  /** Mostly a name that is new. */
  private String name(String letter, List<String> old) {
    return chance(25) ? known(old, letter, 9) : letter + "n" + fresh++;
  }

  private String someClaim() {
    return known(reference.claimNames(), "c", 2);
  }

  /** Mostly the name of an item that is conceded (0) or not (1), or both (-1), and not of this speaker. */
  private String someItem(int conceded, int speaker) {
    String name = known(reference.itemNames(), "c", 2);
    for (int tries = 0; tries < 10; tries++) {
      int item = reference.itemNames().indexOf(name);
      boolean fits = item >= 0 && reference.item(item, 7) != conceded && reference.item(item, 1) != speaker;
      if (fits || chance(20)) return name;
      name = known(reference.itemNames(), "c", 2);
    }
    return name;
  }

  private String someItem() {
    return someItem(-1, -1);
  }

  private String known(List<String> names, String letter, int below) {
    return names.isEmpty() || chance(50) ? letter + (1 + random.nextInt(below)) : names.get(random.nextInt(names.size()));
  }

  /** Puts, drops or changes a few bytes, so that the grammar is tried too. */
  private String spoilt(String text) {
    String bytes = " \n;[]abz019A|\u00ff\u0000";
    String[] words = {"not ", "[", "]", "and ", "or ", "if ", "in ", "force ", "speaker ", "123456", "1234567 ", "longname9 "};
    StringBuilder spoilt = new StringBuilder(text);
    for (int n = random.nextInt(3); n >= 0; n--) {
      int at = random.nextInt(spoilt.length() + 1);
      int how = random.nextInt(4);
      if (how == 0) spoilt.insert(at, bytes.charAt(random.nextInt(bytes.length())));
      else if (how == 1) spoilt.insert(at, words[random.nextInt(words.length)]);
      else if (how == 2 && at < spoilt.length()) spoilt.deleteCharAt(at);
      else if (how == 3) spoilt.setLength(at);
    }
    return spoilt.toString();
  }
}
