/** Promises 21 to 23: see, forget, terms. */
public final class SeenTest {
  private static final Check CHECK = new Check("SeenTest");
  private static final int[] NO_PARTIES = {-1, 2, 5, Integer.MIN_VALUE, Integer.MAX_VALUE};
  private static final long HALF = 1L << 31;

  public static void main(String[] args) {
    sees();
    seeRefusals();
    forgets();
    termsOfOneSeed();
    termsByHand();
    termsRefusals();
    CHECK.end();
  }

  private static void sees() {
    ShadowCourt court = Courts.of("0000000000;p15,c15");
    CHECK.same("see(0, 3, 0, true)", court.see(0, 3, 0, true), 1);
    CHECK.same("heights 5 to 9", court.party(0, 5), 496);
    CHECK.same("see(1, 3, 9, false)", court.see(1, 3, 9, false), 2);
    CHECK.same("heights 1 to 3 of the other one", court.party(1, 5), 7);
    CHECK.same("see(0, 0, 0, false)", court.see(0, 0, 0, false), 3);
    CHECK.same("no heights", court.party(0, 5), 0);
    CHECK.same("heights of the other one still", court.party(1, 5), 7);
    CHECK.same("count(8)", court.count(8), 3);
    for (int number = 4; number <= 8; number++) CHECK.same("see number " + number, court.see(0, 12, 9, true), number);
    CHECK.refused("see number 9", court, ShadowCourt.FULL, x -> x.see(0, 12, 9, true));
    CHECK.refused("see number 9 outside", court, ShadowCourt.OUTSIDE, x -> x.see(0, 13, 9, true));
  }

  private static void seeRefusals() {
    ShadowCourt court = Courts.of(Courts.THREE_HOURS);
    for (int party : NO_PARTIES) {
      CHECK.refused("see(" + party + ", 13, 10, true)", court, ShadowCourt.UNKNOWN, x -> x.see(party, 13, 10, true));
    }
    for (int hour : new int[] {-1, 13, Integer.MIN_VALUE, Integer.MAX_VALUE}) {
      CHECK.refused("see(0, " + hour + ", 0, true)", court, ShadowCourt.OUTSIDE, x -> x.see(0, hour, 0, true));
    }
    for (int tile : new int[] {-1, 10, Integer.MIN_VALUE, Integer.MAX_VALUE}) {
      CHECK.refused("see(0, 0, " + tile + ", true)", court, ShadowCourt.OUTSIDE, x -> x.see(0, 0, tile, true));
    }
    CHECK.refused("see() without a court", new ShadowCourt(), ShadowCourt.UNKNOWN, x -> x.see(0, 0, 0, true));
  }

  private static void forgets() {
    ShadowCourt court = Courts.of(Courts.THREE_HOURS);
    CHECK.same("forget() of nothing", court.forget(), 0);
    court.see(0, 6, 0, true);
    court.see(0, 6, 1, true);
    CHECK.same("forget() of two", court.forget(), 2);
    CHECK.same("heights then", court.party(0, 5), 511);
    CHECK.same("count(8) then", court.count(8), 0);
    CHECK.same("see() then", court.see(1, 0, 0, true), 1);
    CHECK.same("forget() without a court", new ShadowCourt().forget(), 0);
  }

  private static void termsOfOneSeed() {
    ShadowCourt court = Courts.of(Courts.FOUR);
    long seed = 77;
    for (int number = 0; number < 3; number++) seed = (seed * 1103515245L + 12345) % HALF;
    CHECK.same("seed behind one time", court.terms(1, 77, 2), seed);
    for (int number = 0; number < 177; number++) seed = (seed * 1103515245L + 12345) % HALF;
    CHECK.same("seed behind sixty", court.terms(60, 77, 2), seed);
    CHECK.same("the greatest seed", court.terms(1, 2147483647, 2), 646343466);
    CHECK.same("seed 0", court.terms(1, 0, 2), ((12345L * 1103515245 + 12345) % HALF * 1103515245 + 12345) % HALF);
    CHECK.refused("terms(20, 77, 0)", court, court.terms(20, 77, 0), x -> x.terms(20, 77, 0));
  }

  /** What one time does is told by what terms() counts of one more time from the same seed. */
  private static void termsByHand() {
    ShadowCourt court = Courts.of(Courts.FOUR);
    long seed = 5;
    int forFirst = 0;
    int stayed = 0;
    for (int times = 1; times <= 60; times++) {
      int[] drawn = new int[3];
      for (int number = 0; number < 3; number++) {
        seed = (seed * 1103515245L + 12345) % HALF;
        drawn[number] = (int) (seed / 65536 % (number < 2 ? 4 : 13));
      }
      if (drawn[0] != drawn[1]) {
        int found = court.found(drawn[0], drawn[1], drawn[2]);
        if (found > 100) forFirst++;
        if (found == 100) stayed++;
      }
      CHECK.same("terms(" + times + ", 5, 0)", court.terms(times, 5, 0), forFirst);
      CHECK.same("terms(" + times + ", 5, 1)", court.terms(times, 5, 1), stayed);
      CHECK.same("terms(" + times + ", 5, 2)", court.terms(times, 5, 2), seed);
    }
  }

  private static void termsRefusals() {
    ShadowCourt court = Courts.of(Courts.THREE_HOURS);
    for (int times : new int[] {0, 61, -1, Integer.MIN_VALUE, Integer.MAX_VALUE}) {
      CHECK.refused("terms of " + times + " times", court, ShadowCourt.OUTSIDE, x -> x.terms(times, 1, 0));
      CHECK.refused("the same without a court", new ShadowCourt(), ShadowCourt.OUTSIDE, x -> x.terms(times, 1, 0));
    }
    for (int seed : new int[] {-1, Integer.MIN_VALUE}) {
      CHECK.refused("terms of seed " + seed, court, ShadowCourt.OUTSIDE, x -> x.terms(1, seed, 0));
    }
    for (int what : new int[] {-1, 3, Integer.MIN_VALUE, Integer.MAX_VALUE}) {
      CHECK.refused("terms, what is " + what, court, ShadowCourt.OUTSIDE, x -> x.terms(1, 1, what));
    }
    CHECK.refused("terms() without a court", new ShadowCourt(), ShadowCourt.STATE, x -> x.terms(1, 1, 0));
  }
}
