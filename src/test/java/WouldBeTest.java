/** Promises 18 to 20: game, docket, odds. */
public final class WouldBeTest {
  private static final Check CHECK = new Check("WouldBeTest");
  private static final int[] NO_PARTIES = {-1, 2, 5, Integer.MIN_VALUE, Integer.MAX_VALUE};

  public static void main(String[] args) {
    games();
    gameRefusals();
    dockets();
    docketRefusals();
    odds();
    oddsRefusals();
    CHECK.end();
  }

  private static void game(String text, int hour, int hours, int much, int step) {
    ShadowCourt court = Courts.at(text, hour);
    CHECK.refused("game of " + text, court, much, x -> x.game(0, 1, hours, 0));
    CHECK.refused("first step of " + text, court, step, x -> x.game(0, 1, hours, 1));
  }

  private static void games() {
    // In HOUR 0 one of 1 high covers two tiles to the west; only tile 4 is worth something.
    game("0000900000;p15,p19", 0, 1, 509, 1);
    // b would step to 6, if a were not there ahead of it.
    game("0000900000;p15,p17", 0, 1, 509, 2);
    // Both may stay where both are.
    game("0000900000;p15,p15", 0, 1, 500, 1);
    game("0000900000;p17,p10", 0, 1, 509, 0);
    game("0000900000;p17,p14", 0, 1, 500, 0);
    // a may not leave the floor: in HOUR 3 it covers one tile to the west.
    game("9000000000;p10,p19", 3, 1, 509, 2);
    // Nothing is COVERED in HOUR 6, and all steps are as good: the least that is on the floor.
    game("9999999999;p10,p19", 6, 1, 500, 1);
    game("9999999999;p11,p19", 6, 1, 500, 0);
    // HOUR 0 comes behind HOUR 12; from tile 7 tile 4 is COVERED then by a step to the west in the one or the other.
    game("0000900000;p17,p10", 12, 2, 509, 0);
    game("0000900000;p18,p10", 12, 2, 509, 0);
    game("0000900000;p19,p10", 12, 2, 500, 0);
    ShadowCourt four = Courts.of(Courts.FOUR);
    four.tick();
    CHECK.same("game of four hours", four.game(0, 1, 4, 0), 474);
    CHECK.same("its first step", four.game(0, 1, 4, 1), 2);
    CHECK.same("game of three hours", four.game(3, 2, 3, 0), 545);
  }

  private static void gameRefusals() {
    ShadowCourt court = Courts.of(Courts.THREE_HOURS);
    for (int party : NO_PARTIES) {
      CHECK.refused("game(" + party + ", 1, 0, 2)", court, ShadowCourt.UNKNOWN, x -> x.game(party, 1, 0, 2));
      CHECK.refused("game(1, " + party + ", 1, 0)", court, ShadowCourt.UNKNOWN, x -> x.game(1, party, 1, 0));
    }
    CHECK.refused("game(1, 1, 1, 0)", court, ShadowCourt.UNKNOWN, x -> x.game(1, 1, 1, 0));
    for (int hours : new int[] {0, 5, -1, Integer.MIN_VALUE, Integer.MAX_VALUE}) {
      CHECK.refused("game(0, 1, " + hours + ", 0)", court, ShadowCourt.OUTSIDE, x -> x.game(0, 1, hours, 0));
    }
    for (int what : new int[] {-1, 2, Integer.MIN_VALUE, Integer.MAX_VALUE}) {
      CHECK.refused("game(0, 1, 1, " + what + ")", court, ShadowCourt.OUTSIDE, x -> x.game(0, 1, 1, what));
    }
  }

  private static void docket(String what, ShadowCourt court, int... due) {
    CHECK.refused(what + ", docket(0)", court, due[0], x -> x.docket(0));
    for (int number = 0; number < 5; number++) {
      int asked = 10 + number;
      CHECK.refused(what + ", docket(" + asked + ")", court, due[1 + number], x -> x.docket(asked));
    }
  }

  private static void dockets() {
    int none = ShadowCourt.NONE;
    ShadowCourt court = Courts.of(Courts.THREE_HOURS);
    docket("no case", court, 0, none, none, none, none, none);
    court.file(0, 1);
    docket("one case", court, 1, 1, none, none, none, none);
    court.file(1, 0);
    docket("one that can't be", court, 1, 1, none, none, none, none);
    court.settle();
    for (int number = 0; number < 5; number++) court.file(0, 1);
    docket("five in three hours", court, 3, none, none, 1, 2, 3);
    court.tick();
    docket("five at another hour", court, 3, none, none, 1, 2, 3);
    court.stand(1, 0);
    docket("five in four hours", court, 4, none, 0, 1, 2, 3);
    court.rise(1, 2);
    court.stand(1, 2);
    // Of 2 high, on tile 2, the second one covers tile 0 in the HOURS 0 to 3, too.
    docket("all stayed", court, 0, none, none, none, none, none);
    // CASE 0 could be in the HOURS 1 and 2, CASE 1 in 1 alone.
    ShadowCourt yields = Courts.of("9000000000;p34,p12,p23");
    yields.file(0, 1);
    yields.file(2, 1);
    docket("a case that yields", yields, 2, 2, 1, none, none, none);
    yields.settle();
    yields.file(0, 1);
    yields.file(0, 1);
    yields.file(2, 1);
    docket("NONE ahead of all", yields, 2, none, 2, 1, none, none);
  }

  private static void docketRefusals() {
    ShadowCourt court = Courts.of(Courts.THREE_HOURS);
    for (int what : new int[] {-1, 1, 9, 15, Integer.MIN_VALUE, Integer.MAX_VALUE}) {
      CHECK.refused("docket(" + what + ")", court, ShadowCourt.OUTSIDE, x -> x.docket(what));
      CHECK.refused("docket(" + what + ") without a court", new ShadowCourt(), ShadowCourt.OUTSIDE,
          x -> x.docket(what));
    }
    for (int what : new int[] {0, 10, 14}) {
      CHECK.refused("docket(" + what + ") without a court", new ShadowCourt(), ShadowCourt.STATE,
          x -> x.docket(what));
    }
  }

  private static void odds(int hour, int hours, int tenths, int above, int below) {
    ShadowCourt court = Courts.at(Courts.THREE_HOURS, hour);
    String what = "odds at " + hour + " of " + hours + " hours and " + tenths + " tenths";
    CHECK.refused(what + ", above", court, above, x -> x.odds(0, 1, hours, tenths, 0));
    CHECK.refused(what + ", below", court, below, x -> x.odds(0, 1, hours, tenths, 1));
  }

  private static void odds() {
    odds(0, 1, 5, 0, 1);
    odds(0, 2, 5, 1, 4);
    odds(0, 6, 0, 0, 1);
    odds(1, 1, 0, 1, 1);
    odds(1, 6, 0, 1, 1);
    odds(1, 6, 10, 0, 1);
    odds(1, 3, 3, 973, 1000);
    odds(1, 6, 3, 973, 1000);
    odds(1, 1, 9, 1, 10);
    odds(12, 2, 5, 0, 1);
    odds(12, 3, 5, 1, 8);
    odds(12, 6, 1, 999, 100000);
    CHECK.same("odds for the other one", Courts.at(Courts.THREE_HOURS, 1).odds(1, 0, 6, 3, 0), 0);
  }

  private static void oddsRefusals() {
    ShadowCourt court = Courts.of(Courts.THREE_HOURS);
    for (int party : NO_PARTIES) {
      CHECK.refused("odds(" + party + ", 1, 0, 11, 2)", court, ShadowCourt.UNKNOWN, x -> x.odds(party, 1, 0, 11, 2));
      CHECK.refused("odds(1, " + party + ", 1, 1, 0)", court, ShadowCourt.UNKNOWN, x -> x.odds(1, party, 1, 1, 0));
    }
    CHECK.refused("odds(1, 1, 1, 1, 0)", court, ShadowCourt.UNKNOWN, x -> x.odds(1, 1, 1, 1, 0));
    for (int hours : new int[] {0, 7, -1, Integer.MIN_VALUE, Integer.MAX_VALUE}) {
      CHECK.refused("odds of " + hours + " hours", court, ShadowCourt.OUTSIDE, x -> x.odds(0, 1, hours, 1, 0));
    }
    for (int tenths : new int[] {-1, 11, Integer.MIN_VALUE, Integer.MAX_VALUE}) {
      CHECK.refused("odds of " + tenths + " tenths", court, ShadowCourt.OUTSIDE, x -> x.odds(0, 1, 1, tenths, 0));
    }
    for (int what : new int[] {-1, 2, Integer.MIN_VALUE, Integer.MAX_VALUE}) {
      CHECK.refused("odds, what is " + what, court, ShadowCourt.OUTSIDE, x -> x.odds(0, 1, 1, 1, what));
    }
  }
}
