import java.util.ArrayList;
import java.util.List;

/**
 * Every call that refuses, in every state that a refusal speaks of, with each of its numbers at the least and the
 * greatest that it takes, just beyond them, and far beyond: the answer is the first refusal that the promise names,
 * or none; a refused call changes nothing, not the image either.
 */
public final class RefusalTest {
  private static final Check CHECK = new Check("RefusalTest");
  private static final int ACCEPTED = 0;
  private static final int UNKNOWN = ShadowCourt.UNKNOWN, OUTSIDE = ShadowCourt.OUTSIDE;
  private static final int STATE = ShadowCourt.STATE, FULL = ShadowCourt.FULL;

  private interface Call {
    int on(ShadowCourt court, int[] n);
  }

  /** Which refusal is due, if all numbers are within their ranges and known. */
  private interface Rest {
    int due(At at, int[] n);
  }

  /** A state of a court, and what is known of it without asking it. */
  private interface At {
    ShadowCourt made();

    int parties();

    default boolean isFull() {
      return false;
    }
  }

  /** What a number may be: a PARTY, or anything from least to most, or else the refusal. */
  private record Range(int refusal, boolean isParty, int least, int most) {
    int most(At at) {
      return isParty ? at.parties() - 1 : most;
    }

    List<Integer> edges(At at) {
      List<Integer> edges = new ArrayList<>(List.of(Integer.MIN_VALUE, Integer.MAX_VALUE, least, most(at)));
      if (least > Integer.MIN_VALUE) edges.add(least - 1);
      if (most(at) < Integer.MAX_VALUE) edges.add(most(at) + 1);
      if (least < most(at)) edges.add(least + 1);
      return edges;
    }
  }

  private static final Range PARTY = new Range(UNKNOWN, true, 0, 0);

  private static Range unknown(int least, int most) {
    return new Range(UNKNOWN, false, least, most);
  }

  private static Range outside(int least, int most) {
    return new Range(OUTSIDE, false, least, most);
  }

  private static final Range HOUR = outside(0, 12);
  private static final Rest NONE_MORE = (at, n) -> ACCEPTED;

  /** THE PAGE, CASES and SEEN empty; no image. */
  private static At empty(String text) {
    return new At() {
      public ShadowCourt made() {
        return Courts.of(text);
      }

      public int parties() {
        return (text.length() - 10) / 4;
      }
    };
  }

  /** THE PAGE, CASES and SEEN full, and HOUR 12; an image was kept ahead of that. */
  private static At full(String text) {
    return new At() {
      public ShadowCourt made() {
        ShadowCourt court = Courts.at(text, 5);
        court.image();
        for (int hour = 5; hour < 12; hour++) court.tick();
        for (int number = 0; number < 5; number++) court.file(1, 0);
        for (int number = 0; number < 8; number++) court.see(1, 12, number, true);
        for (int number = 0; number < 34; number++) court.letter('p');
        return court;
      }

      public int parties() {
        return (text.length() - 10) / 4;
      }

      public boolean isFull() {
        return true;
      }
    };
  }

  private static At none(int letters) {
    return new At() {
      public ShadowCourt made() {
        ShadowCourt court = new ShadowCourt();
        for (int number = 0; number < letters; number++) court.letter('9');
        return court;
      }

      public int parties() {
        return 0;
      }

      public boolean isFull() {
        return letters == 34;
      }
    };
  }

  private static final List<At> STATES = List.of(
      none(0), none(34),
      empty("9000000000;p10,p19"), empty("0102030405;u99,t50,c34,h11,p77"),
      full("9876543210;c49,t90"), full("9876543210;p15,h25,t35,c45,u55"));

  private static void each(String name, Call call, Rest rest, Range... ranges) {
    for (At at : STATES) combine(name, call, rest, ranges, at, new int[ranges.length], 0);
  }

  private static void combine(String name, Call call, Rest rest, Range[] ranges, At at, int[] n, int from) {
    if (from == ranges.length) {
      one(told(name, n, at), call, due(rest, ranges, at, n), at, n);
      return;
    }
    for (int number : ranges[from].edges(at)) {
      n[from] = number;
      combine(name, call, rest, ranges, at, n, from + 1);
    }
  }

  /** Of each call, UNKNOWN comes ahead of OUTSIDE, and OUTSIDE ahead of STATE and FULL. */
  private static int due(Rest rest, Range[] ranges, At at, int[] n) {
    for (int refusal : new int[] {UNKNOWN, OUTSIDE}) {
      int parties = 0;
      for (int number = 0; number < n.length; number++) {
        Range range = ranges[number];
        if (range.isParty) parties++;
        boolean needsCourt = range.refusal == UNKNOWN && at.parties() == 0;
        boolean isWithin = n[number] >= range.least && n[number] <= range.most(at) && !needsCourt;
        if (range.refusal == refusal && !isWithin) return refusal;
      }
      if (refusal == UNKNOWN && parties == 2 && n[0] == n[1]) return refusal;
    }
    return rest.due(at, n);
  }

  private static String told(String name, int[] n, At at) {
    StringBuilder text = new StringBuilder(name).append('(');
    for (int number : n) text.append(number).append(' ');
    return text + "), " + at.parties() + " parties" + (at.isFull() ? ", full" : "");
  }

  private static void one(String what, Call call, int due, At at, int[] n) {
    ShadowCourt court = at.made();
    long before = court.digest();
    int got = call.on(court, n);
    if (due == ACCEPTED) {
      CHECK.isTrue(what + " is not refused, but answered " + got, got >= ShadowCourt.NONE);
      return;
    }
    CHECK.same(what, got, due);
    CHECK.same(what + ", digest behind it", court.digest(), before);
    boolean isKept = at.isFull() && at.parties() > 0;
    CHECK.same(what + ", the image behind it", court.restore(), isKept ? 5 : STATE);
  }

  public static void main(String[] args) {
    page();
    parties();
    deeds();
    wouldBe();
    seen();
    whole();
    CHECK.end();
  }

  private static void page() {
    each("letter", (x, n) -> x.letter(n[0]), (at, n) -> at.isFull() ? FULL : ACCEPTED, outside(32, 126));
    each("court", (x, n) -> x.court(), (at, n) -> STATE);
    each("blank", (x, n) -> x.blank(), NONE_MORE);
    each("fault", (x, n) -> x.fault(), NONE_MORE);
  }

  private static void parties() {
    each("party", (x, n) -> x.party(n[0], n[1]), NONE_MORE, PARTY, outside(0, 6));
    each("as", (x, n) -> x.as(n[0], n[1]), NONE_MORE, PARTY, outside(0, 4));
    each("covers", (x, n) -> x.covers(n[0], n[1]), NONE_MORE, PARTY, HOUR);
    each("tile", (x, n) -> x.tile(n[0], n[1]), NONE_MORE, unknown(0, 9), outside(0, 2));
    each("found", (x, n) -> x.found(n[0], n[1], n[2]), NONE_MORE, PARTY, PARTY, HOUR);
  }

  private static void deeds() {
    each("tick", (x, n) -> x.tick(), (at, n) -> at.parties() == 0 ? STATE : ACCEPTED);
    each("step", (x, n) -> x.step(n[0], n[1]), RefusalTest::stepDue, PARTY, outside(-1, 1));
    each("stand", (x, n) -> x.stand(n[0], n[1]), NONE_MORE, PARTY, unknown(0, 9));
    each("rise", (x, n) -> x.rise(n[0], n[1]), NONE_MORE, PARTY, outside(1, 9));
    each("lay", (x, n) -> x.lay(n[0], n[1]), NONE_MORE, unknown(0, 9), outside(0, 9));
    each("file", (x, n) -> x.file(n[0], n[1]), (at, n) -> at.isFull() ? FULL : ACCEPTED, PARTY, PARTY);
    each("settle", (x, n) -> x.settle(), NONE_MORE);
  }

  private static int stepDue(At at, int[] n) {
    if (n[1] == 0) return OUTSIDE;
    int tile = at.made().party(n[0], 2);
    return n[1] < 0 && tile == 0 || n[1] > 0 && tile == 9 ? STATE : ACCEPTED;
  }

  private static void wouldBe() {
    each("game", (x, n) -> x.game(n[0], n[1], n[2], n[3]), NONE_MORE, PARTY, PARTY, outside(1, 4), outside(0, 1));
    each("docket, from 0", (x, n) -> x.docket(n[0]), RefusalTest::stateDue, outside(0, 0));
    each("docket, from 10", (x, n) -> x.docket(n[0]), RefusalTest::stateDue, outside(10, 14));
    each("odds", (x, n) -> x.odds(n[0], n[1], n[2], n[3], n[4]), NONE_MORE,
        PARTY, PARTY, outside(1, 6), outside(0, 10), outside(0, 1));
  }

  private static int stateDue(At at, int[] n) {
    return at.parties() == 0 ? STATE : ACCEPTED;
  }

  private static void seen() {
    for (boolean covers : new boolean[] {false, true}) {
      each("see " + covers, (x, n) -> x.see(n[0], n[1], n[2], covers), (at, n) -> at.isFull() ? FULL : ACCEPTED,
          PARTY, HOUR, outside(0, 9));
    }
    each("forget", (x, n) -> x.forget(), NONE_MORE);
    each("terms", (x, n) -> x.terms(n[0], n[1], n[2]), RefusalTest::stateDue,
        outside(1, 60), outside(0, Integer.MAX_VALUE), outside(0, 2));
  }

  private static void whole() {
    each("image", (x, n) -> x.image(), RefusalTest::stateDue);
    each("restore", (x, n) -> x.restore(), (at, n) -> at.isFull() && at.parties() > 0 ? ACCEPTED : STATE);
    each("count", (x, n) -> x.count(n[0]), NONE_MORE, outside(0, 10));
  }
}
