/** A debate of two speakers. Each answer that is printed stands behind its call; the sheet comes last. */
public final class Example {
  public static void main(String[] args) {
    DebateHall hall = new DebateHall();
    put(hall, "speaker ann; speaker bob time 120;\n"
        + "claim trams by ann weight 20; claim cars by bob weight 12;\n"
        + "attack slow from cars on trams force 10; attack fumes from trams on cars force 6;");
    System.out.println(hall.count(10)); // 175 bytes are on the tape
    System.out.println(hall.tell()); // 0: no error
    System.out.println(hall.count(10)); // 0: the tape is empty again
    System.out.println(hall.count(7)); // 4 items are open: they attack each other in a circle

    put(hall, "claim lanes by ann; attack own from lanes on slow force 10 if open trams;");
    System.out.println(hall.tell()); // 0
    System.out.println(hall.item(0, 5)); // 1: trams is in
    System.out.println(hall.item(1, 5)); // 2: cars is out
    System.out.println(hall.item(1, 6)); // 6: it was found so in round 6
    System.out.println(hall.why(1)); // 3: because of fumes
    System.out.println(hall.far(5)); // 2: own is on an attack on a claim
    System.out.println(hall.defends(5, 0)); // true: own defends trams
    System.out.println(hall.share()); // 0.6666666666666666 of the claims are in
    System.out.println(hall.speaker(1, 0)); // 83: the time that bob has left
    System.out.println(hall.speaker(1, 1)); // 1: the score of bob
    System.out.println(hall.speaker(1, 2)); // -40: the lead of bob
    System.out.println(hall.leader()); // 0: ann

    System.out.println(hall.frees(1)); // 1: cars is in if item 0, trams, is conceded
    System.out.println(hall.conceding(5, 1)); // -15: the lead of bob if own is conceded
    System.out.println(hall.concede(1)); // -1: bob has nothing that he had best concede
    System.out.println(hall.least(0)); // 10: the least force against trams
    System.out.println(hall.advise(1, 9)); // 4: with force 9, bob had best attack lanes
    System.out.println(hall.advise(1, 10)); // 0: with force 10, trams
    System.out.println(hall.give(1, 60)); // 143: the time that bob has left then

    put(hall, "concede slow; claim bikes by bob weight 51;");
    System.out.println(hall.tell()); // 5: a number is out of its range
    System.out.println(hall.errorAt()); // 40: the place of 51
    System.out.println(hall.item(2, 7)); // 0: slow is not conceded, as nothing of the text is told

    int bytes = hall.sheet();
    System.out.println(bytes); // 76 bytes of the sheet are on the paper
    System.out.println(hall.digest()); // 8032221733349787123: the checksum of all this
    for (int index = 0; index < bytes; index++) {
      System.out.print((char) hall.byteAt(index));
    }
  }

  /** Puts a text on the empty tape, filled up with blanks to whole twenties, and cuts it to its length. */
  private static void put(DebateHall hall, String text) {
    for (int at = 0; at < text.length(); at += 20) {
      hall.feed(four(text, at), four(text, at + 4), four(text, at + 8), four(text, at + 12), four(text, at + 16));
    }
    hall.trim(text.length());
  }

  /** Returns four bytes of a text as a number, the first one highest. */
  private static int four(String text, int start) {
    int number = 0;
    for (int at = start; at < start + 4; at++) {
      number = number << 8 | (at < text.length() ? text.charAt(at) : ' ');
    }
    return number;
  }
}
