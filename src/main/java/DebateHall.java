/**
 * A hall of debates: speakers claim, attack, support, concede and recall in a language of its own,
 * and the hall tells what stands, who leads, and what had best be conceded or attacked.
 */
public final class DebateHall {
  private static final int NONE = -1;

  private static final int TAPE_BYTES = 2000;
  private static final int FED_BYTES = 20;
  /** Two names of 8 bytes, two blanks, the longest of in, out and open, and a line end. */
  private static final int SHEET_LINE_BYTES = 23;

  private static final int SPEAKERS = 6;
  private static final int ITEMS = 40;
  private static final int DEEPEST = 6;

  private static final int CLAIM = 0;
  private static final int ATTACK = 1;
  private static final int SUPPORT = 2;

  private static final int MOST_TIME = 3600;
  private static final int MINUTE = 60;
  private static final int MOST_FORCE = 50;

  private static final int COUNTS = 12;
  private static final int SPEAKER_FACTS = 7;
  private static final int ITEM_FACTS = 11;

  private final Row tape = new Row(TAPE_BYTES);
  private final Row paper = new Row(ITEMS * SHEET_LINE_BYTES);
  private final Debate debate = new Debate();
  private final Standing standing = new Standing(debate);
  /** Kept apart from what stands, so that asking what would be changes nothing. */
  private final Standing supposed = new Standing(debate);
  private final Tokens tokens = new Tokens();
  private final Grammar grammar = new Grammar(tokens);
  private final Teller teller = new Teller(tokens, debate, standing);
  private int errorPlace = NONE;

  public DebateHall() {
  }

  // ---- the language

  public int feed(int a, int b, int c, int d, int e) throws IllegalStateException {
    if (tape.length() + FED_BYTES > TAPE_BYTES) {
      throw new IllegalStateException("the tape is too short for this");
    }
    tape.appendFour(a);
    tape.appendFour(b);
    tape.appendFour(c);
    tape.appendFour(d);
    tape.appendFour(e);
    return tape.length();
  }

  public int trim(int n) throws IllegalArgumentException {
    if (n < 0 || n > tape.length()) {
      throw new IllegalArgumentException("the tape has not so many bytes");
    }
    tape.shortenTo(n);
    return n;
  }

  public int tell() {
    tokens.readFrom(tape);
    tape.shortenTo(0);
    errorPlace = grammar.firstWrongPlace();
    if (errorPlace != NONE) {
      return 1;
    }
    debate.keep();
    int error = teller.carryOut();
    if (error != 0) {
      errorPlace = teller.errorPlace();
      debate.goBack();
    }
    standing.settle(0, 0);
    return error;
  }

  public int errorAt() {
    return errorPlace;
  }

  public int count(int what) throws IndexOutOfBoundsException {
    switch (what) {
      case 0: return debate.speakers();
      case 1: return debate.items();
      case 2: return Long.bitCount(debate.itemsOfKind(CLAIM));
      case 3: return Long.bitCount(debate.itemsOfKind(ATTACK));
      case 4: return Long.bitCount(debate.itemsOfKind(SUPPORT));
      case 5: return Long.bitCount(standing.itemsIn());
      case 6: return Long.bitCount(standing.itemsOut());
      case 7: return Long.bitCount(standing.itemsOpen());
      case 8: return Long.bitCount(debate.concededItems());
      case 9: return standing.rounds();
      case 10: return tape.length();
      case 11: return paper.length();
      default: throw new IndexOutOfBoundsException("no such count");
    }
  }

  // ---- speakers and items

  public int speaker(int speaker, int what) throws IndexOutOfBoundsException {
    needSpeaker(speaker);
    long own = debate.itemsOfSpeaker(speaker);
    switch (what) {
      case 0: return debate.timeOf(speaker);
      case 1: return standing.scoreOf(speaker);
      case 2: return standing.leadOf(speaker);
      case 3: return Long.bitCount(own & debate.itemsOfKind(CLAIM));
      case 4: return Long.bitCount(own & debate.itemsOfKind(ATTACK));
      case 5: return Long.bitCount(own & debate.itemsOfKind(SUPPORT));
      case 6: return Long.bitCount(own & debate.concededItems());
      default: throw new IndexOutOfBoundsException("no such fact of a speaker");
    }
  }

  public int item(int item, int what) throws IndexOutOfBoundsException {
    needItem(item);
    switch (what) {
      case 0: return debate.kindOf(item);
      case 1: return debate.speakerOf(item);
      case 2: return debate.strengthOf(item);
      case 3: return debate.sourceOf(item);
      case 4: return debate.targetOf(item);
      case 5: return standing.isIn(item) ? 1 : standing.isOut(item) ? 2 : 0;
      case 6: return standing.roundOf(item);
      case 7: return debate.isConceded(item) ? 1 : 0;
      case 8: return debate.isStrongAttack(item) ? 1 : 0;
      case 9: return Long.bitCount(debate.itemsWithTarget(item) & debate.itemsOfKind(ATTACK));
      case 10: return Long.bitCount(debate.itemsWithTarget(item) & debate.itemsOfKind(SUPPORT));
      default: throw new IndexOutOfBoundsException("no such fact of an item");
    }
  }

  public int give(int speaker, int time) throws IndexOutOfBoundsException, IllegalArgumentException {
    needSpeaker(speaker);
    if (time < 1 || time > MOST_TIME) {
      throw new IllegalArgumentException("so much time can't be given");
    }
    debate.addTime(speaker, time);
    return debate.timeOf(speaker);
  }

  public int why(int item) throws IndexOutOfBoundsException {
    needItem(item);
    if (!standing.isOut(item)) {
      return -1;
    }
    for (int attack = 0; attack < debate.items(); attack++) {
      if (debate.targetOf(attack) == item && debate.isStrongAttack(attack) && standing.isIn(attack)) {
        return attack;
      }
    }
    return debate.isConceded(item) ? -2 : -3;
  }

  public int far(int item) throws IndexOutOfBoundsException {
    needItem(item);
    int steps = 0;
    int target = debate.targetOf(item);
    while (target != NONE && steps < ITEMS) {
      steps++;
      target = debate.targetOf(target);
    }
    return steps;
  }

  public boolean defends(int item, int other) throws IndexOutOfBoundsException {
    needItem(item);
    needItem(other);
    int attacked = debate.targetOf(item);
    return debate.isStrongAttack(item) && standing.isIn(item)
        && debate.isStrongAttack(attacked) && debate.targetOf(attacked) == other;
  }

  public int leader() {
    int best = NONE;
    for (int speaker = 0; speaker < debate.speakers(); speaker++) {
      if (best == NONE || standing.scoreOf(speaker) > standing.scoreOf(best)) {
        best = speaker;
      }
    }
    return best;
  }

  // ---- what would be

  public int conceding(int item, int speaker) throws IndexOutOfBoundsException {
    needItem(item);
    needSpeaker(speaker);
    supposed.settle(bit(item), 0);
    return supposed.leadOf(speaker);
  }

  public int concede(int speaker) throws IndexOutOfBoundsException {
    needSpeaker(speaker);
    return bestFor(speaker, debate.itemsOfSpeaker(speaker), true);
  }

  public int advise(int speaker, int force) throws IndexOutOfBoundsException, IllegalArgumentException {
    needSpeaker(speaker);
    if (force < 1 || force > MOST_FORCE) {
      throw new IllegalArgumentException("no attack has this force");
    }
    long others = debate.allItems() & ~debate.itemsOfSpeaker(speaker);
    return bestFor(speaker, others & debate.itemsWithin(force), false);
  }

  public int least(int item) throws IndexOutOfBoundsException {
    needItem(item);
    return debate.leastForceOn(item);
  }

  public int frees(int item) throws IndexOutOfBoundsException {
    needItem(item);
    if (standing.isIn(item)) {
      return 0;
    }
    int one = oneThatFrees(item);
    return one != NONE ? 1 + one : pairThatFrees(item);
  }

  // ---- the sheet

  public int sheet() {
    paper.shortenTo(0);
    for (int item = 0; item < debate.items(); item++) {
      paper.appendWord(debate.nameOfItem(item));
      paper.append(' ');
      paper.appendWord(debate.nameOfSpeaker(debate.speakerOf(item)));
      paper.append(' ');
      paper.appendWord(standing.wordFor(item).code());
      paper.append('\n');
    }
    return paper.length();
  }

  public int byteAt(int index) throws IndexOutOfBoundsException {
    if (index < 0 || index >= paper.length()) {
      throw new IndexOutOfBoundsException("no such place on the paper");
    }
    return paper.at(index);
  }

  public double share() {
    long claims = debate.itemsOfKind(CLAIM);
    int all = Long.bitCount(claims);
    if (all == 0) {
      return 0;
    }
    return (double) Long.bitCount(claims & standing.itemsIn()) / all;
  }

  public long digest() {
    long sum = 719;
    for (int what = 0; what < COUNTS; what++) {
      sum = sum * 31 + count(what);
    }
    for (int speaker = 0; speaker < debate.speakers(); speaker++) {
      for (int what = 0; what < SPEAKER_FACTS; what++) {
        sum = sum * 31 + speaker(speaker, what);
      }
    }
    for (int item = 0; item < debate.items(); item++) {
      for (int what = 0; what < ITEM_FACTS; what++) {
        sum = sum * 31 + item(item, what);
      }
      sum = sum * 31 + why(item);
      sum = sum * 31 + far(item);
    }
    for (int index = 0; index < paper.length(); index++) {
      sum = sum * 31 + paper.at(index);
    }
    return sum;
  }

  private void needSpeaker(int speaker) {
    if (!debate.hasSpeaker(speaker)) {
      throw new IndexOutOfBoundsException("no such speaker");
    }
  }

  private void needItem(int item) {
    if (!debate.hasItem(item)) {
      throw new IndexOutOfBoundsException("no such item");
    }
  }

  /** Returns the item that had best be conceded, or else struck, so that the speaker leads by more. */
  private int bestFor(int speaker, long choice, boolean conceded) {
    int best = NONE;
    int greatest = standing.leadOf(speaker);
    for (int item = 0; item < debate.items(); item++) {
      if ((choice & bit(item)) != 0) {
        supposed.settle(conceded ? bit(item) : 0, conceded ? 0 : bit(item));
        int lead = supposed.leadOf(speaker);
        if (lead > greatest) {
          greatest = lead;
          best = item;
        }
      }
    }
    return best;
  }

  private int oneThatFrees(int item) {
    for (int one = 0; one < debate.items(); one++) {
      if (one != item) {
        supposed.settle(bit(one), 0);
        if (supposed.isIn(item)) {
          return one;
        }
      }
    }
    return NONE;
  }

  /** An item that is out has to be tried too: conceding the other one could bring it in again. */
  private int pairThatFrees(int item) {
    for (int one = 0; one < debate.items(); one++) {
      for (int other = one + 1; other < debate.items(); other++) {
        if (one != item && other != item) {
          supposed.settle(bit(one) | bit(other), 0);
          if (supposed.isIn(item)) {
            return 100 * (1 + one) + 1 + other;
          }
        }
      }
    }
    return NONE;
  }

  /** Sets of items are the bits of a long: there are at most 40. */
  private static long bit(int item) {
    return 1L << item;
  }

  /** What a token is. A word is kept as the number that its bytes make, the first one highest. */
  private enum Kind {
    SPEAKER("speaker"), TIME("time"), CLAIM("claim"), BY("by"), WEIGHT("weight"),
    ATTACK("attack"), SUPPORT("support"), FROM("from"), ON("on"), FOR("for"), FORCE("force"),
    IF("if"), CONCEDE("concede"), RECALL("recall"), IN("in"), OUT("out"), OPEN("open"),
    CONCEDED("conceded"), NOT("not"), AND("and"), OR("or"),
    OPENING("["), CLOSING("]"), SEMICOLON(";"),
    NAME(""), NUMBER(""), END(""), WRONG("");

    private static final Kind[] ALL = values();

    private final long code;

    Kind(String text) {
      code = codeOf(text);
    }

    long code() {
      return code;
    }

    private static long codeOf(String text) {
      long code = 0;
      for (int i = 0; i < text.length(); i++) {
        code = code << 8 | text.charAt(i);
      }
      return code;
    }

    /**
     * Returns the keyword or symbol with this code, or otherwise the kind of what is none.
     * A kind without a text of its own has the code 0, which the byte 0 on a tape must not meet.
     */
    static Kind withCode(long code, Kind otherwise) {
      for (Kind kind : ALL) {
        if (kind.code == code && code != 0) {
          return kind;
        }
      }
      return otherwise;
    }
  }

  /** A row of bytes: the tape, or the paper. */
  private static final class Row {
    private final byte[] bytes;
    private int length;

    Row(int most) {
      bytes = new byte[Math.max(0, most)];
    }

    int length() {
      return length;
    }

    int at(int index) {
      return index >= 0 && index < length && index < bytes.length ? bytes[index] & 255 : 0;
    }

    void append(int value) {
      if (length >= 0 && length < bytes.length) {
        bytes[length] = (byte) value;
        length++;
      }
    }

    void appendFour(int four) {
      append(four >> 24);
      append(four >> 16);
      append(four >> 8);
      append(four);
    }

    void appendWord(long code) {
      for (int shift = 56; shift >= 0; shift -= 8) {
        int letter = (int) (code >> shift) & 255;
        if (letter != 0) {
          append(letter);
        }
      }
    }

    void shortenTo(int n) {
      if (n >= 0 && n <= length) {
        length = n;
      }
    }
  }

  /** The tokens of a text, with one more behind the last: the end, or the one that is too many. */
  private static final class Tokens {
    private static final int MOST = 400;
    private static final int LONGEST_WORD = 8;
    private static final int LONGEST_NUMBER = 6;

    private final Kind[] kinds = new Kind[MOST + 1];
    private final int[] places = new int[MOST + 1];
    private final long[] values = new long[MOST + 1];
    private int size;

    /** What stands behind a wrong token is read on: the grammar never gets there. */
    void readFrom(Row text) {
      size = 0;
      int at = behindBlanks(text, 0);
      for (int n = 0; n < MOST && at < text.length(); n++) {
        at = behindBlanks(text, readOne(text, at));
      }
      put(at < text.length() ? Kind.WRONG : Kind.END, at, 0);
    }

    Kind kindAt(int index) {
      return index >= 0 && index < size && index <= MOST ? kinds[index] : Kind.WRONG;
    }

    int placeOf(int index) {
      return index >= 0 && index < size && index <= MOST ? places[index] : 0;
    }

    /** Returns the code of a word, or the value of a number. */
    long valueAt(int index) {
      return index >= 0 && index < size && index <= MOST ? values[index] : 0;
    }

    private static int behindBlanks(Row text, int start) {
      int at = start;
      while (at < text.length() && (text.at(at) == ' ' || text.at(at) == '\n')) {
        at++;
      }
      return at;
    }

    private int readOne(Row text, int start) {
      int first = text.at(start);
      if (isLetter(first)) {
        return readWord(text, start);
      }
      if (isDigit(first)) {
        return readNumber(text, start);
      }
      put(Kind.withCode(first, Kind.WRONG), start, 0);
      return start + 1;
    }

    private int readWord(Row text, int start) {
      long code = 0;
      int end = start;
      while (end < text.length() && (isLetter(text.at(end)) || isDigit(text.at(end)))) {
        code = code << 8 | text.at(end);
        end++;
      }
      boolean tooLong = end - start > LONGEST_WORD;
      put(tooLong ? Kind.WRONG : Kind.withCode(code, Kind.NAME), start, code);
      return end;
    }

    private int readNumber(Row text, int start) {
      long value = 0;
      int end = start;
      while (end < text.length() && isDigit(text.at(end))) {
        value = value * 10 + text.at(end) - '0';
        end++;
      }
      put(end - start > LONGEST_NUMBER ? Kind.WRONG : Kind.NUMBER, start, value);
      return end;
    }

    private void put(Kind kind, int place, long value) {
      if (size >= 0 && size <= MOST) {
        kinds[size] = kind;
        places[size] = place;
        values[size] = value;
        size++;
      }
    }

    private static boolean isLetter(int value) {
      return value >= 'a' && value <= 'z';
    }

    private static boolean isDigit(int value) {
      return value >= '0' && value <= '9';
    }
  }

  /** Finds the first token with which a text goes wrong; behind it nothing is taken any more. */
  private static final class Grammar {
    private final Tokens tokens;
    private int at;
    private boolean right;

    Grammar(Tokens tokens) {
      this.tokens = tokens;
    }

    int firstWrongPlace() {
      at = 0;
      right = true;
      for (int lines = 0; lines < Tokens.MOST && right && !sees(Kind.END); lines++) {
        readLine();
      }
      return right ? NONE : tokens.placeOf(at);
    }

    private boolean sees(Kind kind) {
      return right && tokens.kindAt(at) == kind;
    }

    private boolean takes(Kind kind) {
      if (!right || tokens.kindAt(at) != kind) {
        return false;
      }
      at++;
      return true;
    }

    private void need(Kind kind) {
      if (right && tokens.kindAt(at) == kind) {
        at++;
      } else {
        right = false;
      }
    }

    private void readLine() {
      if (takes(Kind.SPEAKER)) {
        need(Kind.NAME);
        readNumberBehind(Kind.TIME);
      } else if (takes(Kind.CLAIM)) {
        need(Kind.NAME);
        readNameBehind(Kind.BY);
        readNumberBehind(Kind.WEIGHT);
      } else if (takes(Kind.ATTACK)) {
        readMove(Kind.ON);
      } else if (takes(Kind.SUPPORT)) {
        readMove(Kind.FOR);
      } else if (takes(Kind.CONCEDE) || takes(Kind.RECALL)) {
        need(Kind.NAME);
      } else {
        right = false;
      }
      need(Kind.SEMICOLON);
    }

    private void readMove(Kind beforeTarget) {
      need(Kind.NAME);
      readNameBehind(Kind.FROM);
      readNameBehind(beforeTarget);
      readNumberBehind(Kind.FORCE);
      if (takes(Kind.IF)) {
        readTest(0);
      }
    }

    private void readNameBehind(Kind keyword) {
      need(keyword);
      need(Kind.NAME);
    }

    private void readNumberBehind(Kind keyword) {
      if (takes(keyword)) {
        need(Kind.NUMBER);
      }
    }

    /** Which of and and or binds more makes no difference to whether a text is right. */
    private void readTest(int depth) {
      readSingle(depth);
      for (int n = 0; n < Tokens.MOST && (takes(Kind.AND) || takes(Kind.OR)); n++) {
        readSingle(depth);
      }
    }

    private void readSingle(int depth) {
      if (takes(Kind.IN) || takes(Kind.OUT) || takes(Kind.OPEN) || takes(Kind.CONCEDED)) {
        need(Kind.NAME);
      } else if (depth >= DEEPEST) {
        right = false;
      } else if (takes(Kind.NOT)) {
        readSingle(depth + 1);
      } else {
        need(Kind.OPENING);
        if (right) {
          readTest(depth + 1);
        }
        need(Kind.CLOSING);
      }
    }
  }

  /** What was told: the speakers and the items. */
  private static final class Debate {
    private final long[] speakerNames = new long[SPEAKERS];
    private final int[] times = new int[SPEAKERS];
    private int speakers;

    private final long[] itemNames = new long[ITEMS];
    private final int[] kinds = new int[ITEMS];
    private final int[] owners = new int[ITEMS];
    private final int[] strengths = new int[ITEMS];
    private final int[] sources = new int[ITEMS];
    private final int[] targets = new int[ITEMS];
    private final boolean[] strongAttacks = new boolean[ITEMS];
    private int items;
    private long conceded;

    private final int[] keptTimes = new int[SPEAKERS];
    private int keptSpeakers;
    private int keptItems;
    private long keptConceded;

    /** Names, speakers and items are only ever added, so their numbers are enough to go back. */
    void keep() {
      System.arraycopy(times, 0, keptTimes, 0, SPEAKERS);
      keptSpeakers = speakers;
      keptItems = items;
      keptConceded = conceded;
    }

    void goBack() {
      System.arraycopy(keptTimes, 0, times, 0, SPEAKERS);
      speakers = keptSpeakers;
      items = keptItems;
      conceded = keptConceded;
    }

    int speakers() {
      return speakers;
    }

    boolean hasSpeaker(int speaker) {
      return speaker >= 0 && speaker < speakers && speaker < SPEAKERS;
    }

    int findSpeaker(long name) {
      for (int speaker = 0; speaker < speakers && speaker < SPEAKERS; speaker++) {
        if (speakerNames[speaker] == name) {
          return speaker;
        }
      }
      return NONE;
    }

    long nameOfSpeaker(int speaker) {
      return hasSpeaker(speaker) ? speakerNames[speaker] : 0;
    }

    int timeOf(int speaker) {
      return hasSpeaker(speaker) ? times[speaker] : 0;
    }

    void addTime(int speaker, int time) {
      if (hasSpeaker(speaker)) {
        times[speaker] += time;
      }
    }

    void addSpeaker(long name, int time) {
      if (speakers >= 0 && speakers < SPEAKERS) {
        speakerNames[speakers] = name;
        times[speakers] = time;
        speakers++;
      }
    }

    int items() {
      return items;
    }

    boolean hasItem(int item) {
      return item >= 0 && item < items && item < ITEMS;
    }

    int findItem(long name) {
      for (int item = 0; item < items && item < ITEMS; item++) {
        if (itemNames[item] == name) {
          return item;
        }
      }
      return NONE;
    }

    long nameOfItem(int item) {
      return hasItem(item) ? itemNames[item] : 0;
    }

    int kindOf(int item) {
      return hasItem(item) ? kinds[item] : NONE;
    }

    int speakerOf(int item) {
      return hasItem(item) ? owners[item] : NONE;
    }

    /** Returns the weight of a claim, the force of an attack or a support. */
    int strengthOf(int item) {
      return hasItem(item) ? strengths[item] : 0;
    }

    int sourceOf(int item) {
      return hasItem(item) ? sources[item] : NONE;
    }

    int targetOf(int item) {
      return hasItem(item) ? targets[item] : NONE;
    }

    void addClaim(long name, int speaker, int weight) {
      addItem(name, CLAIM, speaker, weight, NONE, NONE);
    }

    void addMove(long name, int kind, int source, int target, int force) {
      addItem(name, kind, speakerOf(source), force, source, target);
    }

    private void addItem(long name, int kind, int speaker, int strength, int source, int target) {
      if (items >= 0 && items < ITEMS) {
        itemNames[items] = name;
        kinds[items] = kind;
        owners[items] = speaker;
        strengths[items] = strength;
        sources[items] = source;
        targets[items] = target;
        strongAttacks[items] = kind == ATTACK && strength >= leastForceOn(target);
        items++;
      }
    }

    long concededItems() {
      return conceded;
    }

    boolean isConceded(int item) {
      return (conceded & bit(item)) != 0;
    }

    void setConceded(int item, boolean so) {
      if (hasItem(item)) {
        conceded = so ? conceded | bit(item) : conceded & ~bit(item);
      }
    }

    int leastForceOn(int item) {
      int strength = strengthOf(item);
      return kindOf(item) == CLAIM ? (strength + 1) / 2 : strength;
    }

    boolean isStrongAttack(int item) {
      return hasItem(item) && strongAttacks[item];
    }

    long allItems() {
      return bit(items) - 1;
    }

    long itemsOfKind(int kind) {
      return itemsWith(kinds, kind);
    }

    long itemsOfSpeaker(int speaker) {
      return itemsWith(owners, speaker);
    }

    long itemsWithTarget(int target) {
      return itemsWith(targets, target);
    }

    private long itemsWith(int[] facts, int fact) {
      long set = 0;
      for (int item = 0; item < items && item < facts.length; item++) {
        set |= facts[item] == fact ? bit(item) : 0;
      }
      return set;
    }

    /** Returns the items on which an attack with this force is strong enough. */
    long itemsWithin(int force) {
      long set = 0;
      for (int item = 0; item < items; item++) {
        set |= leastForceOn(item) <= force ? bit(item) : 0;
      }
      return set;
    }
  }

  /** What stands in a debate, or would stand, and the scores that come of it. */
  private static final class Standing {
    private final Debate debate;
    private final int[] roundOfItem = new int[ITEMS];
    private long conceded;
    private long in;
    private long out;
    private int rounds;

    Standing(Debate debate) {
      this.debate = debate;
    }

    /**
     * Finds what stands if some items more were conceded, and others struck by attacks from outside
     * the debate. Nobody can attack such attacks, so that they are in, and need not be items.
     */
    void settle(long concededMore, long struck) {
      conceded = debate.concededItems() | concededMore;
      in = 0;
      out = 0;
      rounds = 0;
      for (int item = 0; item < ITEMS; item++) {
        roundOfItem[item] = 0;
      }
      for (int round = 1; round <= ITEMS && findMore(round, struck); round++) {
        rounds = round;
      }
    }

    private boolean findMore(int round, long struck) {
      long hit = struck;
      long threatened = 0;
      long sourceOut = 0;
      long sourceNotIn = 0;
      for (int item = 0; item < debate.items(); item++) {
        if (debate.isStrongAttack(item)) {
          long target = bit(debate.targetOf(item));
          hit |= isIn(item) ? target : 0;
          threatened |= isOut(item) ? 0 : target;
        }
        int source = debate.sourceOf(item);
        if (source != NONE) {
          sourceOut |= isOut(source) ? bit(item) : 0;
          sourceNotIn |= isIn(source) ? 0 : bit(item);
        }
      }
      long open = itemsOpen();
      long falling = open & (conceded | hit | sourceOut);
      long standing = open & ~(falling | threatened | sourceNotIn);
      out |= falling;
      in |= standing;
      noteRound(falling | standing, round);
      return (falling | standing) != 0;
    }

    private void noteRound(long found, int round) {
      for (int item = 0; item < ITEMS; item++) {
        if ((found & bit(item)) != 0) {
          roundOfItem[item] = round;
        }
      }
    }

    boolean isIn(int item) {
      return (in >> item & 1) != 0;
    }

    boolean isOut(int item) {
      return (out >> item & 1) != 0;
    }

    long itemsIn() {
      return in;
    }

    long itemsOut() {
      return out;
    }

    long itemsOpen() {
      return debate.allItems() & ~(in | out);
    }

    /** Returns how many rounds found something. */
    int rounds() {
      return rounds;
    }

    int roundOf(int item) {
      return item >= 0 && item < ITEMS ? roundOfItem[item] : 0;
    }

    Kind wordFor(int item) {
      return isIn(item) ? Kind.IN : isOut(item) ? Kind.OUT : Kind.OPEN;
    }

    int leadOf(int speaker) {
      int own = scoreOf(speaker);
      boolean alone = true;
      int greatest = 0;
      for (int other = 0; other < debate.speakers(); other++) {
        if (other != speaker) {
          int score = scoreOf(other);
          greatest = alone || score > greatest ? score : greatest;
          alone = false;
        }
      }
      return own - greatest;
    }

    int scoreOf(int speaker) {
      int score = debate.timeOf(speaker) / MINUTE;
      for (int item = 0; item < debate.items(); item++) {
        if (debate.speakerOf(item) == speaker) {
          score += worthOf(item);
        }
        if (debate.speakerOf(debate.targetOf(item)) == speaker) {
          score += helpOf(item);
        }
      }
      return score;
    }

    /** Returns what an item is worth to its own speaker. */
    private int worthOf(int item) {
      int worth = (conceded & bit(item)) != 0 ? -1 : 0;
      int kind = debate.kindOf(item);
      int strength = debate.strengthOf(item);
      if (isIn(item) && kind == CLAIM) {
        worth += strength;
      } else if (isIn(item) && kind == SUPPORT) {
        worth += 1;
      } else if (isIn(item) && debate.isStrongAttack(item)) {
        worth += strength / 2;
      } else if (!isOut(item) && kind == CLAIM) {
        worth += strength / 2;
      }
      return worth;
    }

    /** Returns what an item is worth to the speaker of its target, who may be its own speaker or not. */
    private int helpOf(int item) {
      int target = debate.targetOf(item);
      boolean helps = debate.kindOf(item) == SUPPORT && isIn(item)
          && debate.kindOf(target) == CLAIM && isIn(target);
      return helps ? debate.strengthOf(item) : 0;
    }
  }

  /** Carries out the lines of a text that the grammar has found right, up to the first error. */
  private static final class Teller {
    private static final int USUAL_TIME = 300;
    private static final int USUAL_WEIGHT = 10;
    private static final int USUAL_FORCE = 5;
    private static final int TIME_OF_CLAIM = 10;
    private static final int TIME_OF_MOVE = 5;
    private static final int TIME_OF_CONCEDING = 2;

    private final Tokens tokens;
    private final Debate debate;
    private final Standing standing;
    private int at;
    private int error;
    private int errorToken;

    Teller(Tokens tokens, Debate debate, Standing standing) {
      this.tokens = tokens;
      this.debate = debate;
      this.standing = standing;
    }

    /** Returns the error, 0 if there is none; what was told before an error is left to be taken back. */
    int carryOut() {
      at = 0;
      error = 0;
      for (int lines = 0; lines < Tokens.MOST && error == 0 && !sees(Kind.END); lines++) {
        Kind keyword = tokens.kindAt(at);
        at++;
        if (keyword == Kind.SPEAKER) {
          tellSpeaker();
        } else if (keyword == Kind.CLAIM) {
          tellClaim();
        } else if (keyword == Kind.ATTACK || keyword == Kind.SUPPORT) {
          tellMove(keyword == Kind.ATTACK ? ATTACK : SUPPORT);
        } else {
          tellConceded(keyword == Kind.CONCEDE);
        }
        at++;
      }
      return error;
    }

    int errorPlace() {
      return tokens.placeOf(errorToken);
    }

    private boolean sees(Kind kind) {
      return tokens.kindAt(at) == kind;
    }

    /** Only the first error counts: what is looked at behind it changes nothing any more. */
    private void failIf(boolean wrong, int number) {
      if (wrong && error == 0) {
        error = number;
        errorToken = at;
      }
    }

    private void tellSpeaker() {
      long name = tokens.valueAt(at);
      failIf(debate.findSpeaker(name) != NONE, 2);
      failIf(debate.speakers() >= SPEAKERS, 4);
      at++;
      int time = takeNumberBehind(Kind.TIME, USUAL_TIME, 0, MOST_TIME);
      if (error == 0) {
        debate.addSpeaker(name, time);
      }
    }

    private void tellClaim() {
      long name = takeNewItem();
      at++;
      int speaker = debate.findSpeaker(tokens.valueAt(at));
      failIf(speaker == NONE, 3);
      at++;
      int weight = takeNumberBehind(Kind.WEIGHT, USUAL_WEIGHT, 1, MOST_FORCE);
      takeTime(speaker, TIME_OF_CLAIM + weight);
      if (error == 0) {
        debate.addClaim(name, speaker, weight);
      }
    }

    private void tellMove(int kind) {
      long name = takeNewItem();
      at++;
      int source = seeItem();
      failIf(debate.kindOf(source) != CLAIM, 3);
      int speaker = debate.speakerOf(source);
      at += 2;
      int target = seeItem();
      failIf(kind == ATTACK && debate.speakerOf(target) == speaker, 6);
      at++;
      int force = takeNumberBehind(Kind.FORCE, USUAL_FORCE, 1, MOST_FORCE);
      boolean holds = true;
      if (sees(Kind.IF)) {
        at++;
        standing.settle(0, 0);
        holds = takeTest(0);
      }
      takeTime(speaker, TIME_OF_MOVE + force);
      if (error == 0 && holds) {
        debate.addMove(name, kind, source, target, force);
      }
    }

    private void tellConceded(boolean so) {
      int item = seeItem();
      failIf(debate.isConceded(item) == so, 6);
      at++;
      takeTime(debate.speakerOf(item), TIME_OF_CONCEDING);
      if (error == 0) {
        debate.setConceded(item, so);
      }
    }

    private long takeNewItem() {
      long name = tokens.valueAt(at);
      failIf(debate.findItem(name) != NONE, 2);
      failIf(debate.items() >= ITEMS, 4);
      at++;
      return name;
    }

    private int seeItem() {
      int item = debate.findItem(tokens.valueAt(at));
      failIf(item == NONE, 3);
      return item;
    }

    private int takeNumberBehind(Kind keyword, int usual, int lowest, int highest) {
      if (!sees(keyword)) {
        return usual;
      }
      at++;
      long number = tokens.valueAt(at);
      failIf(number < lowest || number > highest, 5);
      at++;
      return (int) number;
    }

    private void takeTime(int speaker, int time) {
      failIf(debate.timeOf(speaker) < time, 7);
      if (error == 0) {
        debate.addTime(speaker, -time);
      }
    }

    private boolean takeTest(int depth) {
      boolean holds = takeBoth(depth);
      for (int n = 0; n < Tokens.MOST && sees(Kind.OR); n++) {
        at++;
        holds |= takeBoth(depth);
      }
      return holds;
    }

    private boolean takeBoth(int depth) {
      boolean holds = takeSingle(depth);
      for (int n = 0; n < Tokens.MOST && sees(Kind.AND); n++) {
        at++;
        holds &= takeSingle(depth);
      }
      return holds;
    }

    private boolean takeSingle(int depth) {
      Kind keyword = tokens.kindAt(at);
      at++;
      if (depth < DEEPEST && keyword == Kind.NOT) {
        return !takeSingle(depth + 1);
      }
      if (depth < DEEPEST && keyword == Kind.OPENING) {
        boolean holds = takeTest(depth + 1);
        at++;
        return holds;
      }
      int item = seeItem();
      at++;
      return keyword == Kind.CONCEDED ? debate.isConceded(item) : standing.wordFor(item) == keyword;
    }
  }
}
