/** Promises 11 to 17: tick, step, stand, rise, lay, file, settle. */
public final class DeedTest {
  private static final Check CHECK = new Check("DeedTest");
  private static final int[] NO_PARTIES = {-1, 4, 5, Integer.MIN_VALUE, Integer.MAX_VALUE};
  private static final int[] NO_TILES = {-1, 10, Integer.MIN_VALUE, Integer.MAX_VALUE};

  public static void main(String[] args) {
    ticks();
    steps();
    stands();
    rises();
    lays();
    files();
    settles();
    CHECK.end();
  }

  private static void ticks() {
    ShadowCourt court = Courts.of(Courts.FOUR);
    for (int hour = 1; hour <= 12; hour++) CHECK.same("tick() to " + hour, court.tick(), hour);
    CHECK.same("days at hour 12", court.count(2), 0);
    CHECK.same("tick() to another day", court.tick(), 0);
    CHECK.same("days then", court.count(2), 1);
    CHECK.same("hour then", court.count(1), 0);
    CHECK.refused("tick() without a court", new ShadowCourt(), ShadowCourt.STATE, ShadowCourt::tick);
    // No one is promised 1299 calls; but the promise names the edge, and this class keeps it.
    ShadowCourt old = Courts.at(Courts.FOUR, 1299);
    CHECK.same("days at the last hour", old.count(2), 99);
    CHECK.same("the last hour", old.count(1), 12);
    CHECK.refused("tick() to day 100", old, ShadowCourt.FULL, ShadowCourt::tick);
  }

  private static void steps() {
    ShadowCourt court = Courts.of(Courts.FOUR);
    CHECK.same("step(0, -1)", court.step(0, -1), 1);
    CHECK.same("step(0, -1)", court.step(0, -1), 0);
    CHECK.refused("step(0, -1) off the floor", court, ShadowCourt.STATE, x -> x.step(0, -1));
    CHECK.same("step(0, 1)", court.step(0, 1), 1);
    court.stand(1, 8);
    CHECK.same("step(1, 1)", court.step(1, 1), 9);
    CHECK.refused("step(1, 1) off the floor", court, ShadowCourt.STATE, x -> x.step(1, 1));
    CHECK.same("tile behind the steps", court.party(0, 2), 1);
    CHECK.same("step to where another is", court.step(2, -1), court.party(3, 2));
    for (int step : new int[] {0, -2, 2, Integer.MIN_VALUE, Integer.MAX_VALUE}) {
      CHECK.refused("step(1, " + step + ")", court, ShadowCourt.OUTSIDE, x -> x.step(1, step));
      CHECK.refused("step(4, " + step + ")", court, ShadowCourt.UNKNOWN, x -> x.step(4, step));
    }
    for (int party : NO_PARTIES) {
      CHECK.refused("step(" + party + ", 1)", court, ShadowCourt.UNKNOWN, x -> x.step(party, 1));
    }
  }

  private static void stands() {
    ShadowCourt court = Courts.of(Courts.FOUR);
    CHECK.same("stand(0, 9)", court.stand(0, 9), 2);
    CHECK.same("stand(0, 0)", court.stand(0, 0), 9);
    CHECK.same("stand(0, 7) where another is", court.stand(0, 7), 0);
    CHECK.same("tile then", court.party(0, 2), 7);
    CHECK.same("who is there", court.tile(7, 1), 3);
    for (int tile : NO_TILES) {
      CHECK.refused("stand(0, " + tile + ")", court, ShadowCourt.UNKNOWN, x -> x.stand(0, tile));
    }
    for (int party : NO_PARTIES) {
      CHECK.refused("stand(" + party + ", 0)", court, ShadowCourt.UNKNOWN, x -> x.stand(party, 0));
    }
  }

  private static void rises() {
    ShadowCourt court = Courts.of(Courts.FOUR);
    CHECK.same("rise(0, 9)", court.rise(0, 9), 6);
    CHECK.same("rise(0, 1)", court.rise(0, 1), 9);
    CHECK.same("high then", court.party(0, 1), 1);
    CHECK.same("covers then", court.covers(0, 9), 8);
    for (int high : new int[] {0, 10, -1, Integer.MIN_VALUE, Integer.MAX_VALUE}) {
      CHECK.refused("rise(0, " + high + ")", court, ShadowCourt.OUTSIDE, x -> x.rise(0, high));
      CHECK.refused("rise(4, " + high + ")", court, ShadowCourt.UNKNOWN, x -> x.rise(4, high));
    }
    for (int party : NO_PARTIES) {
      CHECK.refused("rise(" + party + ", 1)", court, ShadowCourt.UNKNOWN, x -> x.rise(party, 1));
    }
  }

  private static void lays() {
    ShadowCourt court = Courts.of(Courts.FOUR);
    CHECK.same("lay(0, 9)", court.lay(0, 9), 1);
    CHECK.same("lay(0, 0)", court.lay(0, 0), 9);
    CHECK.same("lay(9, 7)", court.lay(9, 7), 6);
    CHECK.same("worth then", court.tile(9, 0), 7);
    CHECK.same("worth of all then", court.count(3), 21);
    for (int worth : new int[] {-1, 10, Integer.MIN_VALUE, Integer.MAX_VALUE}) {
      CHECK.refused("lay(0, " + worth + ")", court, ShadowCourt.OUTSIDE, x -> x.lay(0, worth));
      CHECK.refused("lay(10, " + worth + ")", court, ShadowCourt.UNKNOWN, x -> x.lay(10, worth));
    }
    for (int tile : NO_TILES) {
      CHECK.refused("lay(" + tile + ", 0)", court, ShadowCourt.UNKNOWN, x -> x.lay(tile, 0));
    }
    CHECK.refused("lay(0, 10) without a court", new ShadowCourt(), ShadowCourt.UNKNOWN, x -> x.lay(0, 10));
  }

  private static void files() {
    ShadowCourt court = Courts.of(Courts.FOUR);
    for (int party : NO_PARTIES) {
      CHECK.refused("file(" + party + ", 0)", court, ShadowCourt.UNKNOWN, x -> x.file(party, 0));
      CHECK.refused("file(0, " + party + ")", court, ShadowCourt.UNKNOWN, x -> x.file(0, party));
    }
    CHECK.refused("file(2, 2)", court, ShadowCourt.UNKNOWN, x -> x.file(2, 2));
    for (int number = 1; number <= 5; number++) CHECK.same("case " + number, court.file(0, 1), number);
    CHECK.refused("case 6", court, ShadowCourt.FULL, x -> x.file(0, 1));
    CHECK.refused("case 6 of one", court, ShadowCourt.UNKNOWN, x -> x.file(1, 1));
    CHECK.same("count(6)", court.count(6), 5);
  }

  private static void settles() {
    ShadowCourt court = Courts.of(Courts.FOUR);
    CHECK.same("settle() of none", court.settle(), 0);
    court.file(0, 1);
    court.file(1, 2);
    CHECK.same("settle() of two", court.settle(), 2);
    CHECK.same("cases then", court.count(6), 0);
    CHECK.same("docket(0) then", court.docket(0), 0);
    CHECK.same("a case then", court.file(0, 1), 1);
    CHECK.same("settle() without a court", new ShadowCourt().settle(), 0);
  }
}
