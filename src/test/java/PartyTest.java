/** Promises 6 to 10: party, as, covers, tile, found. */
public final class PartyTest {
  private static final Check CHECK = new Check("PartyTest");
  private static final int[] NO_PARTIES = {-1, 4, 5, Integer.MIN_VALUE, Integer.MAX_VALUE};
  private static final int[] NO_HOURS = {-1, 13, Integer.MIN_VALUE, Integer.MAX_VALUE};

  public static void main(String[] args) {
    parties();
    heightsAndLook();
    kinds();
    shadows();
    shadowsAtTheEdges();
    tiles();
    findings();
    CHECK.end();
  }

  private static void parties() {
    ShadowCourt court = Courts.of(Courts.FOUR);
    int[][] due = {{0, 6, 2, 3, 3}, {1, 3, 7, 127, 10}, {2, 4, 5, 0, 0}, {3, 3, 4, 1007, 21}};
    for (int party = 0; party < 4; party++) {
      for (int what = 0; what < 5; what++) {
        CHECK.same("party(" + party + ", " + what + ")", court.party(party, what), due[party][what]);
      }
    }
    CHECK.same("kind of a plume", Courts.of("0000000000;u15,p19").party(0, 0), 4);
    ShadowCourt later = Courts.at(Courts.FOUR, 7);
    CHECK.same("what it covers at 7", later.party(0, 3), 24);
    CHECK.same("worth of that", later.party(0, 4), 3);
    for (int party : NO_PARTIES) {
      CHECK.refused("party(" + party + ", 0)", court, ShadowCourt.UNKNOWN, x -> x.party(party, 0));
      CHECK.refused("party(" + party + ", 7)", court, ShadowCourt.UNKNOWN, x -> x.party(party, 7));
    }
    for (int what : new int[] {-1, 7, Integer.MIN_VALUE, Integer.MAX_VALUE}) {
      CHECK.refused("party(0, " + what + ")", court, ShadowCourt.OUTSIDE, x -> x.party(0, what));
    }
  }

  private static void heightsAndLook() {
    ShadowCourt court = Courts.of("0000000000;p19,p18");
    CHECK.same("heights when nothing is seen", court.party(0, 5), 511);
    CHECK.same("look from tile 9: five reach tile 0 in hour 0", court.party(0, 6), 0);
    CHECK.same("look from tile 8: five reach tile 0 in hour 1", court.party(1, 6), 10);
    court.see(0, 3, 4, true);
    CHECK.same("heights 5 to 9", court.party(0, 5), 496);
    CHECK.same("heights of the one not seen", court.party(1, 5), 511);
    court.see(0, 3, 3, false);
    CHECK.same("height 5 alone", court.party(0, 5), 16);
    CHECK.same("look when one is left", court.party(0, 6), 0);
    court.see(0, 6, 3, true);
    CHECK.same("no heights", court.party(0, 5), 0);
    CHECK.same("look when none is left", court.party(0, 6), ShadowCourt.NONE);
    ShadowCourt moved = Courts.of("0000000000;p15,h15");
    moved.see(0, 3, 0, true);
    moved.see(1, 3, 0, true);
    CHECK.same("heights from tile 5", moved.party(0, 5), 496);
    CHECK.same("heights of a hat from tile 5", moved.party(1, 5), 508);
    moved.stand(0, 9);
    CHECK.same("heights as it stands when asked", moved.party(0, 5), 256);
    moved.rise(0, 3);
    CHECK.same("heights do not hang on how high it is", moved.party(0, 5), 256);
  }

  private static void kinds() {
    ShadowCourt court = Courts.of("0000000000;p11,h11,t11,c11,u11");
    boolean[][] isOf = {
      {true, false, false, false, false},
      {true, true, false, false, false},
      {true, false, true, false, false},
      {true, false, false, true, false},
      {true, true, false, false, true}};
    for (int party = 0; party < 5; party++) {
      for (int kind = 0; kind < 5; kind++) {
        CHECK.same("as(" + party + ", " + kind + ")", court.as(party, kind),
            isOf[party][kind] ? party : ShadowCourt.NONE);
      }
    }
    for (int kind : new int[] {-1, 5, Integer.MIN_VALUE, Integer.MAX_VALUE}) {
      CHECK.refused("as(0, " + kind + ")", court, ShadowCourt.OUTSIDE, x -> x.as(0, kind));
      CHECK.refused("as(5, " + kind + ")", court, ShadowCourt.UNKNOWN, x -> x.as(5, kind));
    }
    CHECK.refused("as(-1, 0)", court, ShadowCourt.UNKNOWN, x -> x.as(-1, 0));
  }

  private static void covers(String who, int[][] hoursAndDue) {
    ShadowCourt court = Courts.of("0000000000;" + who + ",p11");
    for (int[] pair : hoursAndDue) {
      CHECK.same("covers() of " + who + " at " + pair[0], court.covers(0, pair[0]), pair[1]);
    }
  }

  private static void shadows() {
    covers("p35", new int[][] {{6, 0}, {5, 16}, {4, 24}, {3, 28}, {0, 31}, {7, 64}, {8, 192}, {9, 448}, {12, 960}});
    covers("h15", new int[][] {{6, 0}, {5, 16}, {4, 24}, {3, 28}, {7, 64}, {8, 192}, {9, 448}});
    covers("u15", new int[][] {{6, 0}, {5, 16}, {4, 28}, {3, 31}, {7, 64}, {8, 448}, {9, 960}});
    covers("t35", new int[][] {{6, 0}, {5, 16}, {4, 8}, {3, 4}, {2, 2}, {1, 1}, {0, 0}, {7, 64}, {10, 512}, {11, 0}});
    covers("c35", new int[][] {{6, 0}, {5, 80}, {4, 216}, {3, 476}, {7, 80}, {8, 216}, {9, 476}, {0, 991}, {12, 991}});
    covers("p15", new int[][] {{5, 0}, {4, 0}, {3, 16}, {2, 16}, {1, 16}, {0, 24}, {7, 0}, {8, 0}, {9, 64}, {12, 192}});
    covers("t15", new int[][] {{5, 0}, {4, 0}, {3, 16}, {7, 0}, {8, 0}, {9, 64}});
    covers("c15", new int[][] {{5, 0}, {7, 0}, {3, 80}});
  }

  private static void shadowsAtTheEdges() {
    covers("p90", new int[][] {{0, 0}, {5, 0}, {7, 14}, {12, 1022}});
    covers("p99", new int[][] {{0, 511}, {5, 448}, {7, 0}, {12, 0}});
    covers("u90", new int[][] {{0, 0}, {12, 1022}});
    covers("u99", new int[][] {{0, 511}, {12, 0}});
    covers("c90", new int[][] {{0, 1022}, {5, 14}, {12, 1022}});
    covers("c99", new int[][] {{0, 511}, {7, 448}, {12, 511}});
    covers("t39", new int[][] {{3, 64}, {0, 8}, {7, 0}});
    covers("t90", new int[][] {{3, 0}, {9, 512}, {10, 0}});
    ShadowCourt court = Courts.of(Courts.FOUR);
    for (int hour : NO_HOURS) {
      CHECK.refused("covers(0, " + hour + ")", court, ShadowCourt.OUTSIDE, x -> x.covers(0, hour));
      CHECK.refused("covers(4, " + hour + ")", court, ShadowCourt.UNKNOWN, x -> x.covers(4, hour));
    }
    for (int party : NO_PARTIES) {
      CHECK.refused("covers(" + party + ", 0)", court, ShadowCourt.UNKNOWN, x -> x.covers(party, 0));
    }
  }

  private static void tiles() {
    ShadowCourt court = Courts.of(Courts.FOUR);
    int[] worth = {1, 2, 0, 3, 0, 4, 0, 5, 0, 6};
    int[] standing = {0, 0, 1, 0, 8, 4, 0, 2, 0, 0};
    int[] covering = {11, 11, 10, 10, 2, 10, 10, 8, 8, 8};
    for (int tile = 0; tile < 10; tile++) {
      CHECK.same("tile(" + tile + ", 0)", court.tile(tile, 0), worth[tile]);
      CHECK.same("tile(" + tile + ", 1)", court.tile(tile, 1), standing[tile]);
      CHECK.same("tile(" + tile + ", 2)", court.tile(tile, 2), covering[tile]);
    }
    court.stand(3, 2);
    CHECK.same("two on one tile", court.tile(2, 1), 9);
    for (int tile : new int[] {-1, 10, Integer.MIN_VALUE, Integer.MAX_VALUE}) {
      CHECK.refused("tile(" + tile + ", 3)", court, ShadowCourt.UNKNOWN, x -> x.tile(tile, 3));
    }
    for (int what : new int[] {-1, 3, Integer.MIN_VALUE, Integer.MAX_VALUE}) {
      CHECK.refused("tile(0, " + what + ")", court, ShadowCourt.OUTSIDE, x -> x.tile(0, what));
      CHECK.refused("tile(0, " + what + ") without a court", new ShadowCourt(), ShadowCourt.UNKNOWN,
          x -> x.tile(0, what));
    }
  }

  private static void findings() {
    ShadowCourt court = Courts.of(Courts.FOUR);
    CHECK.same("found(0, 1, 7)", court.found(0, 1, 7), 103);
    CHECK.same("found(1, 0, 7)", court.found(1, 0, 7), 97);
    CHECK.same("found(0, 1, 0), where both cover 0 and 1", court.found(0, 1, 0), 93);
    CHECK.same("found(3, 0, 0)", court.found(3, 0, 0), 118);
    CHECK.same("found(0, 3, 6)", court.found(0, 3, 6), 100);
    CHECK.same("the most that is found", Courts.of("9999999999;p99,t10").found(0, 1, 0), 181);
    CHECK.same("the least that is found", Courts.of("9999999999;p99,t10").found(1, 0, 0), 19);
    for (int hour : NO_HOURS) {
      CHECK.refused("found(0, 1, " + hour + ")", court, ShadowCourt.OUTSIDE, x -> x.found(0, 1, hour));
      CHECK.refused("found(1, 1, " + hour + ")", court, ShadowCourt.UNKNOWN, x -> x.found(1, 1, hour));
    }
    for (int party : NO_PARTIES) {
      CHECK.refused("found(" + party + ", 1, 0)", court, ShadowCourt.UNKNOWN, x -> x.found(party, 1, 0));
      CHECK.refused("found(1, " + party + ", 0)", court, ShadowCourt.UNKNOWN, x -> x.found(1, party, 0));
    }
  }
}
